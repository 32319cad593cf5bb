section SW
variable {M : Nat} {TS TV TF : Nat → Nat} {RM : Nat → wg_M → Prop}
set_option maxHeartbeats 1000000 in
theorem wl_prod (hO : wTo M TS TV) (hI : wTi M TS TV TF RM) {C : List (Nat × Int32)} {j : Nat} {σ τ : wg_M} (hc : wTc M TS TV TF j σ) (hm : RM j τ) (cc : wCc C σ) (cm : wCm C τ) (hb : wo_l C ≤ j) : wRes M TS TV TF RM (fun D => ∀ st : List Bool, st.length < 29 → wo_t D st = some (false :: st)) (f_X6_readProduct 260 σ) (f_X12_readProduct 0 τ) C j σ τ := by
  have hM := hO.1
  have eC : f_X6_readProduct 260 σ = wg_bd (f_X6_readUnit 260 σ) (fun v s => if v = nI 0 then some (nI 0, s) else f_X6_readProduct_9 wg_N 260 s) := by
    rw [e_X6_readProduct]; rfl
  have eM : f_X12_readProduct 0 τ = wg_bd (f_X12_readUnit 0 τ) (fun v s => if v = -nI 1 then some (-nI 1, s) else f_X12_readProduct_10 wg_N 0 s) := by
    rw [e_X12_readProduct]; rfl
  rw [eC, eM]
  rcases wl_unit hO hI hc hm cc cm hb with ⟨σ2, τ2, D1, j2, a1, a2, a3, a4, a5, a6, a7, a8, a9, a10⟩ | ⟨σ2, τ2, a1, a2, a3⟩
  · have res := wl_prodL hO hI M j2 (C ++ D1) σ2 τ2 wg_N wg_N (by omega) (by rw [wx_N]; omega) (by rw [wx_N]; omega) a3 a4 a5 a6 (by rw [wo_l_app]; omega)
    have n10 : ¬ nI 1 = nI 0 := by decide
    have n01 : ¬ nI 0 = -nI 1 := by decide
    rw [a1, a2, wx_bd, wx_bd]
    simp only [n10, n01, if_false]
    refine wRes_c res a8 a9 a7 (fun D2 h2 st hst => ?_)
    rw [wo_t_app (a10 st (by omega))]
    exact h2 st hst
  · exact Or.inr ⟨σ2, τ2, by rw [a1, wx_bd]; rfl, by rw [a2, wx_bd]; rfl, a3⟩
set_option maxHeartbeats 1000000 in
theorem wl_sumL (hO : wTo M TS TV) (hI : wTi M TS TV TF RM) : ∀ d j C σ τ f g, M ≤ j + d → d < f → d < g → wTc M TS TV TF j σ → RM j τ → wCc C σ → wCm C τ → wo_l C ≤ j → wRes M TS TV TF RM (fun D => ∀ st : List Bool, st.length < 28 → wo_t D (false :: st) = some (false :: st)) (f_X6_readSum_9 f 260 σ) (f_X12_readSum_10 g 0 τ) C j σ τ := by
  obtain ⟨hM, hM0, hv⟩ := id hO
  intro d
  induction d with
  | zero =>
    intro j C σ τ f g hd hf hg hc hm cc cm hb
    obtain ⟨f, rfl⟩ : ∃ k, f = k + 1 := ⟨f - 1, by omega⟩
    obtain ⟨g, rfl⟩ : ∃ k, g = k + 1 := ⟨g - 1, by omega⟩
    obtain ⟨jM, h6, h7, hk⟩ := id hc
    obtain ⟨k1, k2, k3⟩ := hk j jM
    obtain ⟨r1, r2, r3⟩ := hI.1 j τ hm
    obtain rfl : j = M := by omega
    rw [hM0] at k1
    have k1 : σ 262 j = nI 1 := k1
    have n1 := wl_sg0 (c := 43) hO jM (by omega) r1 r2 (by omega)
    have n2 := wl_sg0 (c := 45) hO jM (by omega) r1 r2 (by omega)
    exact Or.inl ⟨σ, τ, [], j, by simp -implicitDefEqProofs (disch := omega) only [e_X6_readSum_9, e_X6_readSum_9__1, e_X6_readSum_9__2, h6, h7, k1, wx_bd, wx_let, wx_st, wx_lit, wx_ga, wx_sa, pk_mul, nI_add, wx_le, wx_lt, wx_eq, wx_en, wx_ne', wx_nn, wx_ltn, wx_len, wx_nlt, wx_nle, wx_bz0, wx_bz1, if_pos, if_neg, wx_ite, Nat.reduceEqDiff, eq_self, if_true, if_false, not_true_eq_false, not_false_eq_true], by simp -implicitDefEqProofs (disch := omega) only [e_X12_readSum_10, e_X12_readSum_10__1, e_X12_readSum_10__2, n1, n2, wx_bd, wx_let, wx_st, wx_lit, wx_ga, wx_sa, pk_mul, nI_add, wx_le, wx_lt, wx_eq, wx_en, wx_ne', wx_nn, wx_ltn, wx_len, wx_nlt, wx_nle, wx_bz0, wx_bz1, if_pos, if_neg, wx_ite, Nat.reduceEqDiff, eq_self, if_true, if_false, not_true_eq_false, not_false_eq_true], hc, hm, by simpa using cc, by simpa using cm, Nat.le_refl _, wFx_r _ _, wFx_r _ _, fun st _ => rfl⟩
  | succ d ih =>
    intro j C σ τ f g hd hf hg hc hm cc cm hb
    obtain ⟨f, rfl⟩ : ∃ k, f = k + 1 := ⟨f - 1, by omega⟩
    obtain ⟨g, rfl⟩ : ∃ k, g = k + 1 := ⟨g - 1, by omega⟩
    obtain ⟨jM, h6, h7, hk⟩ := id hc
    obtain ⟨k1, k2, k3⟩ := hk j jM
    obtain ⟨r1, r2, r3⟩ := hI.1 j τ hm
    have hvj := hv j jM
    have kl := wKd_lt hvj
    have key : ∀ k, (k = 2 ∨ k = 3) → TS j = 4 → σ 262 j = nI (wo_s k) → f_X12_readSum_10 (g + 1) 0 τ = wg_bd (f_X12_reads 0 τ) (fun _ s => wg_bd (f_X12_readProduct 0 s) (fun v s => if v = -nI 1 then some (-nI 1, s) else wg_bd (f_X12_emits 0 (nI k) (nI 0) s) (fun _ s => f_X12_readSum_10 g 0 s))) → wRes M TS TV TF RM (fun D => ∀ st : List Bool, st.length < 28 → wo_t D (false :: st) = some (false :: st)) (f_X6_readSum_9 (f + 1) 260 σ) (f_X12_readSum_10 (g + 1) 0 τ) C j σ τ := fun k hk2 s4 k1 eM => by
      have jlt := wTo_lt hO jM (by omega)
      have hc1 := wTc_nx hc jlt
      obtain ⟨τ1, t1, t2, t3⟩ := hI.2.2 j τ jlt hm
      have eC : f_X6_readSum_9 (f + 1) 260 σ = wg_bd (f_X6_readProduct 260 (wg_u σ 260 7 (nI (j + 1)))) (fun v s => if v = nI 0 then some (nI 0, s) else wg_bd (f_X3_put 266 (nI (wo_s k)) (nI 0) s) (fun _ s => f_X6_readSum_9 f 260 s)) := by
        rcases hk2 with rfl | rfl
        · have k1 : σ 262 j = nI 43 := k1
          simp -implicitDefEqProofs (disch := omega) only [e_X6_readSum_9, e_X6_readSum_9__1, e_X6_readSum_9__2, e_X6_readSum_48, e_X6_readSum_48__1, e_X6_readSum_48__2, e_X6_readSum_48__3, e_X6_readSum_48__4, h6, h7, k1, wx_bd, wx_let, wx_st, wx_lit, wx_ga, wx_sa, pk_mul, nI_add, wx_le, wx_lt, wx_eq, wx_en, wx_ne', wx_nn, wx_ltn, wx_len, wx_nlt, wx_nle, wx_bz0, wx_bz1, if_pos, if_neg, wx_ite, Nat.reduceEqDiff, eq_self, if_true, if_false, not_true_eq_false, not_false_eq_true]
          rfl
        · have k1 : σ 262 j = nI 45 := k1
          simp -implicitDefEqProofs (disch := omega) only [e_X6_readSum_9, e_X6_readSum_9__1, e_X6_readSum_9__2, e_X6_readSum_48, e_X6_readSum_48__1, e_X6_readSum_48__2, e_X6_readSum_48__3, e_X6_readSum_48__4, h6, h7, k1, wx_bd, wx_let, wx_st, wx_lit, wx_ga, wx_sa, pk_mul, nI_add, wx_le, wx_lt, wx_eq, wx_en, wx_ne', wx_nn, wx_ltn, wx_len, wx_nlt, wx_nle, wx_bz0, wx_bz1, if_pos, if_neg, wx_ite, Nat.reduceEqDiff, eq_self, if_true, if_false, not_true_eq_false, not_false_eq_true]
          rfl
      rw [eC, eM, t1, wx_bd]
      rcases wl_prod hO hI hc1 t2 (wCc_at cc) (wCm_rd t3 cm) (by omega) with ⟨σ2, τ2, D1, j2, a1, a2, a3, a4, a5, a6, a7, a8, a9, a10⟩ | ⟨σ2, τ2, a1, a2, a3⟩
      · have j2M := a3.1
        have hl1 : wo_l (C ++ D1) < 400 := by rw [wo_l_app]; omega
        obtain ⟨σ3, p1, p2, p3⟩ := wl_put a5 (Nat.lt_of_le_of_lt (wo_len _) hl1) k (nI 0)
        obtain ⟨τ3, q1, q2, q3⟩ := wl_emi a6 hl1 k (nI 0) (nI 0) (by omega) (by omega) (fun _ => rfl)
        have el : wo_l [(k, nI 0)] = 1 := by rcases hk2 with rfl | rfl <;> rfl
        have res := ih j2 ((C ++ D1) ++ [(k, nI 0)]) σ3 τ3 f g (by omega) (by omega) (by omega) (wTc_pt p3 a3) (wRM_em hI q3 a4) p2 q2 (by rw [wo_l_app, wo_l_app, el]; omega)
        rw [a1, a2, wx_bd, wx_bd]
        have n10 : ¬ nI 1 = nI 0 := by decide
        have n01 : ¬ nI 0 = -nI 1 := by decide
        simp only [n10, n01, if_false, p1, q1, wx_bd]
        rw [List.append_assoc] at res
        refine wRes_c res (wFx_t (wFx_at σ _) (wFx_t a8 (wFx_pt p3))) (wFx_t (wFx_rd t3) (wFx_t a9 (wFx_em q3))) (by rw [wo_l_app, el]; omega) (fun D2 h2 st hst => ?_)
        rw [List.append_assoc, wo_t_app (a10 (false :: st) (by simp only [List.length_cons]; omega))]
        rcases hk2 with rfl | rfl
        · show wo_t ((2, nI 0) :: D2) (false :: false :: st) = some (false :: st)
          exact h2 st hst
        · show wo_t ((3, nI 0) :: D2) (false :: false :: st) = some (false :: st)
          exact h2 st hst
      · refine Or.inr ⟨σ2, τ2, by rw [a1, wx_bd]; rfl, by rw [a2, wx_bd]; rfl, wE_t (wFx_at σ _) (wFx_rd t3) a3⟩
    by_cases c1 : TS j = 4 ∧ TV j = 43
    · have y1 := wl_sg1 r1 r2 c1
      have r2' := r2 (by omega)
      rw [c1.2] at r2'
      rw [(wKd_s hvj (by omega) (by omega)).2 c1] at k1
      refine key 2 (Or.inl rfl) c1.1 k1 ?_
      simp -implicitDefEqProofs (disch := omega) only [e_X12_readSum_10, e_X12_readSum_10__1, e_X12_readSum_10__2, e_X12_readSum_28, e_X12_readSum_42, e_X12_readSum_42__1, e_X12_readSum_42__2, e_X12_readSum_42__3, y1, r2', wx_bd, wx_let, wx_st, wx_lit, wx_ga, wx_sa, pk_mul, nI_add, wx_le, wx_lt, wx_eq, wx_en, wx_ne', wx_nn, wx_ltn, wx_len, wx_nlt, wx_nle, wx_bz0, wx_bz1, if_pos, if_neg, wx_ite, Nat.reduceEqDiff, eq_self, if_true, if_false, not_true_eq_false, not_false_eq_true]
      rfl
    · have n1 := wl_sg0 (c := 43) hO jM (by omega) r1 r2 c1
      have kn1 : wKd (TS j) (TV j) ≠ 43 := fun q => c1 ((wKd_s hvj (by omega) (by omega)).1 q)
      by_cases c2 : TS j = 4 ∧ TV j = 45
      · have y1 := wl_sg1 r1 r2 c2
        have r2' := r2 (by omega)
        rw [c2.2] at r2'
        rw [(wKd_s hvj (by omega) (by omega)).2 c2] at k1
        refine key 3 (Or.inr rfl) c2.1 k1 ?_
        simp -implicitDefEqProofs (disch := omega) only [e_X12_readSum_10, e_X12_readSum_10__1, e_X12_readSum_10__2, e_X12_readSum_28, e_X12_readSum_42, e_X12_readSum_42__1, e_X12_readSum_42__2, e_X12_readSum_42__3, n1, y1, r2', wx_bd, wx_let, wx_st, wx_lit, wx_ga, wx_sa, pk_mul, nI_add, wx_le, wx_lt, wx_eq, wx_en, wx_ne', wx_nn, wx_ltn, wx_len, wx_nlt, wx_nle, wx_bz0, wx_bz1, if_pos, if_neg, wx_ite, Nat.reduceEqDiff, eq_self, if_true, if_false, not_true_eq_false, not_false_eq_true]
        rfl
      · have n2 := wl_sg0 (c := 45) hO jM (by omega) r1 r2 c2
        have kn2 : wKd (TS j) (TV j) ≠ 45 := fun q => c2 ((wKd_s hvj (by omega) (by omega)).1 q)
        clear key
        generalize wKd (TS j) (TV j) = K at *
        exact Or.inl ⟨σ, τ, [], j, by simp -implicitDefEqProofs (disch := omega) only [e_X6_readSum_9, e_X6_readSum_9__1, e_X6_readSum_9__2, h6, h7, k1, wx_bd, wx_let, wx_st, wx_lit, wx_ga, wx_sa, pk_mul, nI_add, wx_le, wx_lt, wx_eq, wx_en, wx_ne', wx_nn, wx_ltn, wx_len, wx_nlt, wx_nle, wx_bz0, wx_bz1, if_pos, if_neg, wx_ite, Nat.reduceEqDiff, eq_self, if_true, if_false, not_true_eq_false, not_false_eq_true], by simp -implicitDefEqProofs (disch := omega) only [e_X12_readSum_10, e_X12_readSum_10__1, e_X12_readSum_10__2, n1, n2, wx_bd, wx_let, wx_st, wx_lit, wx_ga, wx_sa, pk_mul, nI_add, wx_le, wx_lt, wx_eq, wx_en, wx_ne', wx_nn, wx_ltn, wx_len, wx_nlt, wx_nle, wx_bz0, wx_bz1, if_pos, if_neg, wx_ite, Nat.reduceEqDiff, eq_self, if_true, if_false, not_true_eq_false, not_false_eq_true], hc, hm, by simpa using cc, by simpa using cm, Nat.le_refl _, wFx_r _ _, wFx_r _ _, fun st _ => rfl⟩
set_option maxHeartbeats 1000000 in
theorem wl_sum (hO : wTo M TS TV) (hI : wTi M TS TV TF RM) {C : List (Nat × Int32)} {j : Nat} {σ τ : wg_M} (hc : wTc M TS TV TF j σ) (hm : RM j τ) (cc : wCc C σ) (cm : wCm C τ) (hb : wo_l C ≤ j) : wRes M TS TV TF RM (fun D => ∀ st : List Bool, st.length < 28 → wo_t D st = some (false :: st)) (f_X6_readSum 260 σ) (f_X12_readSum 0 τ) C j σ τ := by
  have hM := hO.1
  have eC : f_X6_readSum 260 σ = wg_bd (f_X6_readProduct 260 σ) (fun v s => if v = nI 0 then some (nI 0, s) else f_X6_readSum_9 wg_N 260 s) := by
    rw [e_X6_readSum]; rfl
  have eM : f_X12_readSum 0 τ = wg_bd (f_X12_readProduct 0 τ) (fun v s => if v = -nI 1 then some (-nI 1, s) else f_X12_readSum_10 wg_N 0 s) := by
    rw [e_X12_readSum]; rfl
  rw [eC, eM]
  rcases wl_prod hO hI hc hm cc cm hb with ⟨σ2, τ2, D1, j2, a1, a2, a3, a4, a5, a6, a7, a8, a9, a10⟩ | ⟨σ2, τ2, a1, a2, a3⟩
  · have res := wl_sumL hO hI M j2 (C ++ D1) σ2 τ2 wg_N wg_N (by omega) (by rw [wx_N]; omega) (by rw [wx_N]; omega) a3 a4 a5 a6 (by rw [wo_l_app]; omega)
    have n10 : ¬ nI 1 = nI 0 := by decide
    have n01 : ¬ nI 0 = -nI 1 := by decide
    rw [a1, a2, wx_bd, wx_bd]
    simp only [n10, n01, if_false]
    refine wRes_c res a8 a9 a7 (fun D2 h2 st hst => ?_)
    rw [wo_t_app (a10 st (by omega))]
    exact h2 st hst
  · exact Or.inr ⟨σ2, τ2, by rw [a1, wx_bd]; rfl, by rw [a2, wx_bd]; rfl, a3⟩
end SW

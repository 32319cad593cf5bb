def wRst (n : Nat) (s5 : wg_M) : Option (Int32 × wg_M) := wg_ga 401 (s5 262) (s5 260 7) (fun v6 => if v6 = nI 271 then f_X6_readCondition_159 (f_X6_readCondition_15 n) 260 s5 else wg_ga 401 (s5 262) (s5 260 7) (fun v7 => if v7 = nI 270 then f_X6_readCondition_159 (f_X6_readCondition_15 n) 260 s5 else if s5 260 15 = nI 0 then f_X6_readCondition_153 s5 else wg_bd (f_X6_fail 260 (nI 1) s5) (fun v8 s9 => if v8 = nI 0 then some (nI 0, s9) else f_X6_readCondition_153 s9)))
section CO
variable {M : Nat} {TS TV TF : Nat → Nat} {RM : Nat → wg_M → Prop}
set_option maxHeartbeats 1000000 in
theorem wl_comp (hO : wTo M TS TV) (hI : wTi M TS TV TF RM) {C : List (Nat × Int32)} {j : Nat} {σ τ : wg_M} (hc : wTc M TS TV TF j σ) (hm : RM j τ) (cc : wCc C σ) (cm : wCm C τ) (hb : wo_l C ≤ j) : (∃ σ' τ' D j', (∀ n, q_X6_readCondition_15__2 n (nI 1) σ = wg_bd (f_X6_readClosing 260 σ') (fun _ s => wRst n s)) ∧ f_X12_readCompared 0 τ = some (nI 0, τ') ∧ wTc M TS TV TF j' σ' ∧ RM j' τ' ∧ wCc (C ++ D) σ' ∧ wCm (C ++ D) τ' ∧ j + wo_l D ≤ j' ∧ j < j' ∧ wFx pS σ σ' ∧ wFx qS τ τ' ∧ ∀ st : List Bool, st.length ≤ 26 → wo_t D st = some (true :: st)) ∨ (∃ σ' τ', (∀ n, q_X6_readCondition_15__2 n (nI 1) σ = some (nI 0, σ')) ∧ f_X12_readCompared 0 τ = some (-nI 1, τ') ∧ wE pS qS σ τ σ' τ') := by
  obtain ⟨hM, hM0, hv⟩ := id hO
  have n10 : ¬ nI 1 = nI 0 := by decide
  have n01 : ¬ nI 0 = -nI 1 := by decide
  rcases wl_sum hO hI hc hm cc cm hb with ⟨σ2, τ2, D1, j2, a1, a2, a3, a4, a5, a6, a7, a8, a9, a10⟩ | ⟨σ2, τ2, a1, a2, a3⟩
  · obtain ⟨jM, h6, h7, hk⟩ := id a3
    obtain ⟨k1, k2, k3⟩ := hk j2 jM
    obtain ⟨r1, r2, r3⟩ := hI.1 j2 τ2 a4
    have hvj := hv j2 jM
    have kl := wKd_lt hvj
    have key : ∀ k c, ((k = 6 ∧ c = 60) ∨ (k = 7 ∧ c = 61) ∨ (k = 8 ∧ c = 62)) → TS j2 = 4 ∧ TV j2 = c → (∀ n, q_X6_readCondition_15__2 n (nI 1) σ = f_X6_readCondition_76 (f_X6_readCondition_15 n) 260 (nI c) σ2) → f_X12_readCompared 0 τ = f_X12_readCompared_73 0 (nI k) τ2 → (∃ σ' τ' D j', (∀ n, q_X6_readCondition_15__2 n (nI 1) σ = wg_bd (f_X6_readClosing 260 σ') (fun _ s => wRst n s)) ∧ f_X12_readCompared 0 τ = some (nI 0, τ') ∧ wTc M TS TV TF j' σ' ∧ RM j' τ' ∧ wCc (C ++ D) σ' ∧ wCm (C ++ D) τ' ∧ j + wo_l D ≤ j' ∧ j < j' ∧ wFx pS σ σ' ∧ wFx qS τ τ' ∧ ∀ st : List Bool, st.length ≤ 26 → wo_t D st = some (true :: st)) ∨ (∃ σ' τ', (∀ n, q_X6_readCondition_15__2 n (nI 1) σ = some (nI 0, σ')) ∧ f_X12_readCompared 0 τ = some (-nI 1, τ') ∧ wE pS qS σ τ σ' τ') := fun k c hkc s4 eC eM => by
      have jlt := wTo_lt hO jM (by omega)
      have hc1 := wTc_nx a3 jlt
      obtain ⟨τ3, t1, t2, t3⟩ := hI.2.2 j2 τ2 jlt a4
      rcases wl_sum hO hI hc1 t2 (wCc_at a5) (wCm_rd t3 a6) (by rw [wo_l_app]; omega) with ⟨σ4, τ4, D2, j4, b1, b2, b3, b4, b5, b6, b7, b8, b9, b10⟩ | ⟨σ4, τ4, b1, b2, b3⟩
      · have j4M := b3.1
        have hl1 : wo_l ((C ++ D1) ++ D2) < 400 := by rw [wo_l_app, wo_l_app]; omega
        obtain ⟨σ5, p1, p2, p3⟩ := wl_put b5 (Nat.lt_of_le_of_lt (wo_len _) hl1) k (nI 0)
        have es : wo_s k = c := by rcases hkc with ⟨rfl, rfl⟩ | ⟨rfl, rfl⟩ | ⟨rfl, rfl⟩ <;> rfl
        rw [es] at p1
        obtain ⟨τ5, q1, q2, q3⟩ := wl_emi b6 hl1 k (nI 0) (nI 0) (by omega) (by omega) (fun _ => rfl)
        have el : wo_l [(k, nI 0)] = 1 := by rcases hkc with ⟨rfl, rfl⟩ | ⟨rfl, rfl⟩ | ⟨rfl, rfl⟩ <;> rfl
        have ea : ((C ++ D1) ++ D2) ++ [(k, nI 0)] = C ++ (D1 ++ (D2 ++ [(k, nI 0)])) := by simp only [List.append_assoc]
        rw [ea] at p2 q2
        refine Or.inl ⟨σ5, τ5, D1 ++ (D2 ++ [(k, nI 0)]), j4, fun n => ?_, ?_, wTc_pt p3 b3, wRM_em hI q3 b4, p2, q2, by rw [wo_l_app, wo_l_app, el]; omega, by omega, wFx_t a8 (wFx_t (wFx_at σ2 _) (wFx_t b8 (wFx_pt p3))), wFx_t a9 (wFx_t (wFx_rd t3) (wFx_t b9 (wFx_em q3))), fun st hst => ?_⟩
        · rw [eC n]
          simp -implicitDefEqProofs (disch := omega) only [e_X6_readCondition_76, e_X6_readCondition_76__1, e_X6_readCondition_76__2, e_X6_readCondition_76__3, e_X6_readCondition_76__4, e_X6_readCondition_76__5, e_X6_readCondition_76__6, e_X6_readCondition_76__7, h7, b1, p1, wx_bd, wx_let, wx_st, wx_lit, wx_ga, wx_sa, pk_mul, nI_add, wx_le, wx_lt, wx_eq, wx_en, wx_ne', wx_nn, wx_ltn, wx_len, wx_nlt, wx_nle, wx_bz0, wx_bz1, if_pos, if_neg, wx_ite, Nat.reduceEqDiff, eq_self, if_true, if_false, not_true_eq_false, not_false_eq_true]
          rfl
        · rw [eM]
          simp -implicitDefEqProofs (disch := omega) only [e_X12_readCompared_73, e_X12_readCompared_73__1, e_X12_readCompared_73__2, e_X12_readCompared_73__3, t1, b2, q1, wx_bd, wx_let, wx_st, wx_lit, wx_ga, wx_sa, pk_mul, nI_add, wx_le, wx_lt, wx_eq, wx_en, wx_ne', wx_nn, wx_ltn, wx_len, wx_nlt, wx_nle, wx_bz0, wx_bz1, if_pos, if_neg, wx_ite, Nat.reduceEqDiff, eq_self, if_true, if_false, not_true_eq_false, not_false_eq_true]
        · rw [wo_t_app (a10 st (by omega)), wo_t_app (b10 (false :: st) (by simp only [List.length_cons]; omega))]
          rcases hkc with ⟨rfl, rfl⟩ | ⟨rfl, rfl⟩ | ⟨rfl, rfl⟩ <;> rfl
      · refine Or.inr ⟨σ4, τ4, fun n => ?_, ?_, wE_t (wFx_t a8 (wFx_at σ2 _)) (wFx_t a9 (wFx_rd t3)) b3⟩
        · rw [eC n]
          simp -implicitDefEqProofs (disch := omega) only [e_X6_readCondition_76, e_X6_readCondition_76__1, e_X6_readCondition_76__2, e_X6_readCondition_76__3, e_X6_readCondition_76__4, e_X6_readCondition_76__5, e_X6_readCondition_76__6, e_X6_readCondition_76__7, h7, b1, wx_bd, wx_let, wx_st, wx_lit, wx_ga, wx_sa, pk_mul, nI_add, wx_le, wx_lt, wx_eq, wx_en, wx_ne', wx_nn, wx_ltn, wx_len, wx_nlt, wx_nle, wx_bz0, wx_bz1, if_pos, if_neg, wx_ite, Nat.reduceEqDiff, eq_self, if_true, if_false, not_true_eq_false, not_false_eq_true]
        · rw [eM]
          simp -implicitDefEqProofs (disch := omega) only [e_X12_readCompared_73, e_X12_readCompared_73__1, e_X12_readCompared_73__2, e_X12_readCompared_73__3, t1, b2, wx_bd, wx_let, wx_st, wx_lit, wx_ga, wx_sa, pk_mul, nI_add, wx_le, wx_lt, wx_eq, wx_en, wx_ne', wx_nn, wx_ltn, wx_len, wx_nlt, wx_nle, wx_bz0, wx_bz1, if_pos, if_neg, wx_ite, Nat.reduceEqDiff, eq_self, if_true, if_false, not_true_eq_false, not_false_eq_true]
    by_cases c1 : TS j2 = 4 ∧ TV j2 = 60
    · have s1 := wl_sg1 r1 r2 c1
      have r2' := r2 (by omega)
      rw [c1.2] at r2'
      rw [(wKd_s hvj (by omega) (by omega)).2 c1] at k1
      exact key 6 60 (Or.inl ⟨rfl, rfl⟩) c1 (fun n => by simp -implicitDefEqProofs (disch := omega) only [e_X6_readCondition_15, e_X6_readCondition_15__1, e_X6_readCondition_15__2, e_X6_readCondition_15__3, e_X6_readCondition_15__4, e_X6_readCondition_15__5, a1, h7, k1, wx_bd, wx_let, wx_st, wx_lit, wx_ga, wx_sa, pk_mul, nI_add, wx_le, wx_lt, wx_eq, wx_en, wx_ne', wx_nn, wx_ltn, wx_len, wx_nlt, wx_nle, wx_bz0, wx_bz1, if_pos, if_neg, wx_ite, Nat.reduceEqDiff, eq_self, if_true, if_false, not_true_eq_false, not_false_eq_true]) (by simp -implicitDefEqProofs (disch := omega) only [e_X12_readCompared, e_X12_readCompared__1, e_X12_readCompared__2, e_X12_readCompared__3, e_X12_readCompared__4, e_X12_readCompared__5, e_X12_readCompared_43, a2, s1, r2', wx_bd, wx_let, wx_st, wx_lit, wx_ga, wx_sa, pk_mul, nI_add, wx_le, wx_lt, wx_eq, wx_en, wx_ne', wx_nn, wx_ltn, wx_len, wx_nlt, wx_nle, wx_bz0, wx_bz1, if_pos, if_neg, wx_ite, Nat.reduceEqDiff, eq_self, if_true, if_false, not_true_eq_false, not_false_eq_true])
    · have s1 := wl_sg0 (c := 60) hO jM (by omega) r1 r2 c1
      have kn1 : wKd (TS j2) (TV j2) ≠ 60 := fun q => c1 ((wKd_s hvj (by omega) (by omega)).1 q)
      by_cases c2 : TS j2 = 4 ∧ TV j2 = 61
      · have s2 := wl_sg1 r1 r2 c2
        have r2' := r2 (by omega)
        rw [c2.2] at r2'
        rw [(wKd_s hvj (by omega) (by omega)).2 c2] at k1
        exact key 7 61 (Or.inr (Or.inl ⟨rfl, rfl⟩)) c2 (fun n => by simp -implicitDefEqProofs (disch := omega) only [e_X6_readCondition_15, e_X6_readCondition_15__1, e_X6_readCondition_15__2, e_X6_readCondition_15__3, e_X6_readCondition_15__4, e_X6_readCondition_15__5, a1, h7, k1, wx_bd, wx_let, wx_st, wx_lit, wx_ga, wx_sa, pk_mul, nI_add, wx_le, wx_lt, wx_eq, wx_en, wx_ne', wx_nn, wx_ltn, wx_len, wx_nlt, wx_nle, wx_bz0, wx_bz1, if_pos, if_neg, wx_ite, Nat.reduceEqDiff, eq_self, if_true, if_false, not_true_eq_false, not_false_eq_true]) (by simp -implicitDefEqProofs (disch := omega) only [e_X12_readCompared, e_X12_readCompared__1, e_X12_readCompared__2, e_X12_readCompared__3, e_X12_readCompared__4, e_X12_readCompared__5, e_X12_readCompared_43, a2, s1, s2, r2', wx_bd, wx_let, wx_st, wx_lit, wx_ga, wx_sa, pk_mul, nI_add, wx_le, wx_lt, wx_eq, wx_en, wx_ne', wx_nn, wx_ltn, wx_len, wx_nlt, wx_nle, wx_bz0, wx_bz1, if_pos, if_neg, wx_ite, Nat.reduceEqDiff, eq_self, if_true, if_false, not_true_eq_false, not_false_eq_true])
      · have s2 := wl_sg0 (c := 61) hO jM (by omega) r1 r2 c2
        have kn2 : wKd (TS j2) (TV j2) ≠ 61 := fun q => c2 ((wKd_s hvj (by omega) (by omega)).1 q)
        by_cases c3 : TS j2 = 4 ∧ TV j2 = 62
        · have s3 := wl_sg1 r1 r2 c3
          have r2' := r2 (by omega)
          rw [c3.2] at r2'
          rw [(wKd_s hvj (by omega) (by omega)).2 c3] at k1
          exact key 8 62 (Or.inr (Or.inr ⟨rfl, rfl⟩)) c3 (fun n => by simp -implicitDefEqProofs (disch := omega) only [e_X6_readCondition_15, e_X6_readCondition_15__1, e_X6_readCondition_15__2, e_X6_readCondition_15__3, e_X6_readCondition_15__4, e_X6_readCondition_15__5, a1, h7, k1, wx_bd, wx_let, wx_st, wx_lit, wx_ga, wx_sa, pk_mul, nI_add, wx_le, wx_lt, wx_eq, wx_en, wx_ne', wx_nn, wx_ltn, wx_len, wx_nlt, wx_nle, wx_bz0, wx_bz1, if_pos, if_neg, wx_ite, Nat.reduceEqDiff, eq_self, if_true, if_false, not_true_eq_false, not_false_eq_true]) (by simp -implicitDefEqProofs (disch := omega) only [e_X12_readCompared, e_X12_readCompared__1, e_X12_readCompared__2, e_X12_readCompared__3, e_X12_readCompared__4, e_X12_readCompared__5, e_X12_readCompared_43, a2, s1, s2, s3, r2', wx_bd, wx_let, wx_st, wx_lit, wx_ga, wx_sa, pk_mul, nI_add, wx_le, wx_lt, wx_eq, wx_en, wx_ne', wx_nn, wx_ltn, wx_len, wx_nlt, wx_nle, wx_bz0, wx_bz1, if_pos, if_neg, wx_ite, Nat.reduceEqDiff, eq_self, if_true, if_false, not_true_eq_false, not_false_eq_true])
        · have s3 := wl_sg0 (c := 62) hO jM (by omega) r1 r2 c3
          have kn3 : wKd (TS j2) (TV j2) ≠ 62 := fun q => c3 ((wKd_s hvj (by omega) (by omega)).1 q)
          have fl := wl_fail hO a3 (nI 1)
          have er := wl_errs (TF := TF) (j := j2) r3 (nI 1)
          clear key
          generalize wKd (TS j2) (TV j2) = K at *
          exact Or.inr ⟨_, _, fun n => by simp -implicitDefEqProofs (disch := omega) only [e_X6_readCondition_15, e_X6_readCondition_15__1, e_X6_readCondition_15__2, e_X6_readCondition_15__3, e_X6_readCondition_15__4, e_X6_readCondition_15__5, a1, h7, k1, fl, wx_bd, wx_let, wx_st, wx_lit, wx_ga, wx_sa, pk_mul, nI_add, wx_le, wx_lt, wx_eq, wx_en, wx_ne', wx_nn, wx_ltn, wx_len, wx_nlt, wx_nle, wx_bz0, wx_bz1, if_pos, if_neg, wx_ite, Nat.reduceEqDiff, eq_self, if_true, if_false, not_true_eq_false, not_false_eq_true], by simp -implicitDefEqProofs (disch := omega) only [e_X12_readCompared, e_X12_readCompared__1, e_X12_readCompared__2, e_X12_readCompared__3, e_X12_readCompared__4, e_X12_readCompared__5, a2, s1, s2, s3, er, wx_bd, wx_let, wx_st, wx_lit, wx_ga, wx_sa, pk_mul, nI_add, wx_le, wx_lt, wx_eq, wx_en, wx_ne', wx_nn, wx_ltn, wx_len, wx_nlt, wx_nle, wx_bz0, wx_bz1, if_pos, if_neg, wx_ite, Nat.reduceEqDiff, eq_self, if_true, if_false, not_true_eq_false, not_false_eq_true], wE_t a8 a9 (wE_mk (wFx_r _ _) (wFx_r _ _) rfl rfl rfl rfl (nI 1) (nI (TF j2)))⟩
  · exact Or.inr ⟨σ2, τ2, fun n => by simp -implicitDefEqProofs (disch := omega) only [e_X6_readCondition_15, e_X6_readCondition_15__1, e_X6_readCondition_15__2, e_X6_readCondition_15__3, e_X6_readCondition_15__4, e_X6_readCondition_15__5, a1, wx_bd, wx_let, wx_st, wx_lit, wx_ga, wx_sa, pk_mul, nI_add, wx_le, wx_lt, wx_eq, wx_en, wx_ne', wx_nn, wx_ltn, wx_len, wx_nlt, wx_nle, wx_bz0, wx_bz1, if_pos, if_neg, wx_ite, Nat.reduceEqDiff, eq_self, if_true, if_false, not_true_eq_false, not_false_eq_true], by simp -implicitDefEqProofs (disch := omega) only [e_X12_readCompared, e_X12_readCompared__1, e_X12_readCompared__2, e_X12_readCompared__3, e_X12_readCompared__4, e_X12_readCompared__5, a2, wx_bd, wx_let, wx_st, wx_lit, wx_ga, wx_sa, pk_mul, nI_add, wx_le, wx_lt, wx_eq, wx_en, wx_ne', wx_nn, wx_ltn, wx_len, wx_nlt, wx_nle, wx_bz0, wx_bz1, if_pos, if_neg, wx_ite, Nat.reduceEqDiff, eq_self, if_true, if_false, not_true_eq_false, not_false_eq_true], a3⟩
set_option maxHeartbeats 1000000 in
theorem wE_SC {σ τ σ' τ' : wg_M} (h : wE pS qS σ τ σ' τ') : wE pC qC σ τ σ' τ' := ⟨wFx_m (wU8_m pSC) h.1, wFx_m qSC h.2.1, h.2.2⟩
set_option maxHeartbeats 1000000 in
theorem wl_cond (hO : wTo M TS TV) (hI : wTi M TS TV TF RM) {C0 : List (Nat × Int32)} : ∀ d j W D σ τ f g, M ≤ j + d → d < f → M + 2 ≤ g + j → wTc M TS TV TF j σ → RM j τ → wWc W σ → wWm W τ → wCc (C0 ++ D) σ → wCm (C0 ++ D) τ → wWf W → wop W ≤ 8 → wo_l (C0 ++ D) + W.length ≤ j → wo_t D [] = some (List.replicate (wto W) true) → (∃ σ' τ' D' j', f_X6_readCondition_15 f 260 σ = some (nI 1, σ') ∧ f_X12_readAny_9 g 0 (nI (wbr W)) (nI 1) τ = some (nI 0, τ') ∧ wTc M TS TV TF j' σ' ∧ RM j' τ' ∧ wCc (C0 ++ D') σ' ∧ wCm (C0 ++ D') τ' ∧ wo_l (C0 ++ D') ≤ j' ∧ j ≤ j' ∧ wo_t D' [] = some [true] ∧ τ' 0 30 = nI 0 ∧ wFx pC σ σ' ∧ wFx qC τ τ') ∨ (∃ σ' τ', f_X6_readCondition_15 f 260 σ = some (nI 0, σ') ∧ f_X12_readAny_9 g 0 (nI (wbr W)) (nI 1) τ = some (-nI 1, τ') ∧ wE pC qC σ τ σ' τ') := by
  obtain ⟨hM, hM0, hv⟩ := id hO
  have n10 : ¬ nI 1 = nI 0 := by decide
  intro d
  induction d with
  | zero =>
    intro j W D σ τ f g hd hf hg hc hm wc wm cc cm wf w8 hb ht
    have jM := hc.1
    obtain rfl : j = M := by omega
    have hN : wg_N = 4999 + 1 := rfl
    obtain ⟨f, rfl⟩ : ∃ k, f = k + 1 := ⟨f - 1, by omega⟩
    obtain ⟨g, rfl⟩ : ∃ k, g = k + 1 := ⟨g - 1, by omega⟩
    obtain ⟨-, h6, h7, hk⟩ := id hc
    obtain ⟨k1, k2, k3⟩ := hk j jM
    obtain ⟨r1, r2, r3⟩ := hI.1 j τ hm
    rw [hM0] at k1
    have k1 : σ 262 j = nI 1 := k1
    have op : f_X6_readOpening 260 σ = some (nI 1, σ) := by
      rw [e_X6_readOpening, hN]
      simp -implicitDefEqProofs (disch := omega) only [e_X6_readOpening_0, e_X6_readOpening_0__1, e_X6_readOpening_0__2, h6, h7, k1, wx_bd, wx_let, wx_st, wx_lit, wx_ga, wx_sa, pk_mul, nI_add, wx_le, wx_lt, wx_eq, wx_en, wx_ne', wx_nn, wx_ltn, wx_len, wx_nlt, wx_nle, wx_bz0, wx_bz1, if_pos, if_neg, wx_ite, Nat.reduceEqDiff, eq_self, if_true, if_false, not_true_eq_false, not_false_eq_true]
    have m6 := wl_wd0 (c := 6) hO jM (by omega) r1 r2 (by omega)
    have m40 := wl_sg0 (c := 40) hO jM (by omega) r1 r2 (by omega)
    rcases wl_comp hO hI hc hm cc cm (by omega) with ⟨σ2, τ2, D1, j2, a1, a2, a3, a4, a5, a6, a7, a8, -⟩ | ⟨σ2, τ2, a1, a2, a3⟩
    · have := a3.1
      omega
    · refine Or.inr ⟨σ2, τ2, ?_, ?_, wE_SC a3⟩
      · rw [e_X6_readCondition_15]
        simp -implicitDefEqProofs (disch := omega) only [h6, h7, op, a1, wx_bd, wx_let, wx_st, wx_lit, wx_ga, wx_sa, pk_mul, nI_add, wx_le, wx_lt, wx_eq, wx_en, wx_ne', wx_nn, wx_ltn, wx_len, wx_nlt, wx_nle, wx_bz0, wx_bz1, if_pos, if_neg, wx_ite, Nat.reduceEqDiff, eq_self, if_true, if_false, not_true_eq_false, not_false_eq_true]
      · simp -implicitDefEqProofs (disch := omega) only [e_X12_readAny_9, e_X12_readAny_9__1, e_X12_readAny_9__2, e_X12_readAny_9__3, e_X12_readAny_9__4, e_X12_readAny_9__5, e_X12_readAny_9__6, e_X12_readAny_9__7, e_X12_readAny_9__8, e_X12_readAny_9__9, e_X12_readAny_9__10, e_X12_readAny_9__11, e_X12_readAny_9__12, e_X12_readAny_9__13, e_X12_readAny_9__14, e_X12_readAny_9__15, e_X12_readAny_9__16, e_X12_readAny_9__17, e_X12_readAny_9__18, e_X12_readAny_9__19, e_X12_readAny_9__20, e_X12_readAny_9__21, e_X12_readAny_9__22, m6, m40, a2, wx_bd, wx_let, wx_st, wx_lit, wx_ga, wx_sa, pk_mul, nI_add, wx_le, wx_lt, wx_eq, wx_en, wx_ne', wx_nn, wx_ltn, wx_len, wx_nlt, wx_nle, wx_bz0, wx_bz1, if_pos, if_neg, wx_ite, Nat.reduceEqDiff, eq_self, if_true, if_false, not_true_eq_false, not_false_eq_true]
  | succ d ih =>
    intro j W D σ τ f g hd hf hg hc hm wc wm cc cm wf w8 hb ht
    obtain ⟨f, rfl⟩ : ∃ k, f = k + 1 := ⟨f - 1, by omega⟩
    obtain ⟨jM, h6, h7, -⟩ := id hc
    have eC0 : ∀ v s, f_X6_readOpening 260 σ = some (v, s) → f_X6_readCondition_15 (f + 1) 260 σ = q_X6_readCondition_15__2 f v s := fun v s e => by
      rw [e_X6_readCondition_15]
      simp -implicitDefEqProofs (disch := omega) only [h6, h7, e, wx_bd, wx_let, wx_st, wx_lit, wx_ga, wx_sa, pk_mul, nI_add, wx_le, wx_lt, wx_eq, wx_en, wx_ne', wx_nn, wx_ltn, wx_len, wx_nlt, wx_nle, wx_bz0, wx_bz1, if_pos, if_neg, wx_ite, Nat.reduceEqDiff, eq_self, if_true, if_false, not_true_eq_false, not_false_eq_true]
    rcases wl_open hO hI M j W σ τ wg_N g (by omega) (by rw [wx_N]; omega) hg hc hm wc wm wf w8 with ⟨σ1, τ1, z1, z2, z3⟩ | ⟨j1, W1, σ1, τ1, g1, z1, z2, z3, z4, z5, z6, z7, z8, z9, z10, z11, z12, z13, z14, z15, z16⟩
    · refine Or.inr ⟨σ1, τ1, ?_, z2, z3⟩
      rw [eC0 (nI 0) σ1 (by rw [e_X6_readOpening]; exact z1)]
      simp -implicitDefEqProofs (disch := omega) only [e_X6_readCondition_15, e_X6_readCondition_15__1, e_X6_readCondition_15__2, e_X6_readCondition_15__3, e_X6_readCondition_15__4, e_X6_readCondition_15__5, wx_bd, wx_let, wx_st, wx_lit, wx_ga, wx_sa, pk_mul, nI_add, wx_le, wx_lt, wx_eq, wx_en, wx_ne', wx_nn, wx_ltn, wx_len, wx_nlt, wx_nle, wx_bz0, wx_bz1, if_pos, if_neg, wx_ite, Nat.reduceEqDiff, eq_self, if_true, if_false, not_true_eq_false, not_false_eq_true]
    · have eC1 := eC0 (nI 1) σ1 (by rw [e_X6_readOpening]; exact z1)
      have cc1 : wCc (C0 ++ D) σ1 := wCc_fr (z15 266 2 rfl) (fun i => z15 267 i rfl) (fun i => z15 268 i rfl) cc
      have cm1 : wCm (C0 ++ D) τ1 := wCm_fr (z16 0 29 rfl) (fun i => z16 16 i rfl) (fun i => z16 17 i rfl) cm
      obtain ⟨r1, r2, r3⟩ := hI.1 j1 τ1 z5
      have j1M := z4.1
      obtain ⟨g1, rfl⟩ : ∃ k, g1 = k + 1 := ⟨g1 - 1, by omega⟩
      have m6 := wl_wd0 (c := 6) hO j1M (by omega) r1 r2 z11
      have m40 := wl_sg0 (c := 40) hO j1M (by omega) r1 r2 z10
      have w26 := wWf_26 z8 z9
      rcases wl_comp hO hI z4 z5 cc1 cm1 (by omega) with ⟨σ2, τ2, D1, j2, a1, a2, a3, a4, a5, a6, a7, a8, a9, a10, a11⟩ | ⟨σ2, τ2, a1, a2, a3⟩
      · -- compared; nots are put
        have wc2 := wWc_S z6 a9
        have wm2 := wWm_S z7 a10
        have j2M := a3.1
        have tl := wto_le W1
        have hlA : wo_l ((C0 ++ D) ++ D1) + W1.length ≤ 400 := by rw [wo_l_app]; omega
        obtain ⟨v1, v2, v3, v4, v5, v6⟩ := wnW_f W1 z8
        obtain ⟨σ3, n1, n2, n3, n4⟩ := wl_nC W1 _ σ2 wg_N (by rw [wx_N]; omega) (by omega) wc2 a5 hlA
        obtain ⟨τ3, o1, o2, o3, o4⟩ := wl_nM W1 _ τ2 wg_N (by rw [wx_N]; omega) (by omega) (wWf_100 W1 z8) wm2 a6 hlA
        have hc3 : wTc M TS TV TF j2 σ3 := wTc_fr a3 (fun a i q => n4 a i (by omega) (by omega) (by omega) (by omega))
        have hm3 : RM j2 τ3 := hI.2.1 j2 τ2 τ3 a4 (fun a i q => o4 a i (by omega) (by omega))
        have es9 : f_X12_settles 0 (nI 9) τ2 = some (nI 0, τ3) := by rw [e_X12_settles]; exact o1
        have eM1 : f_X12_readAny_9 (g1 + 1) 0 (nI (wbr W1)) (nI 1) τ1 = f_X12_readAny_9 g1 0 (nI (wbr (wnW W1))) (nI 0) τ3 := by
          rw [v4]
          simp -implicitDefEqProofs (disch := omega) only [e_X12_readAny_9, e_X12_readAny_9__1, e_X12_readAny_9__2, e_X12_readAny_9__3, e_X12_readAny_9__4, e_X12_readAny_9__5, e_X12_readAny_9__6, e_X12_readAny_9__7, e_X12_readAny_9__8, e_X12_readAny_9__9, e_X12_readAny_9__10, e_X12_readAny_9__11, e_X12_readAny_9__12, e_X12_readAny_9__13, e_X12_readAny_9__14, e_X12_readAny_9__15, e_X12_readAny_9__16, e_X12_readAny_9__17, e_X12_readAny_9__18, e_X12_readAny_9__19, e_X12_readAny_9__20, e_X12_readAny_9__21, e_X12_readAny_9__22, m6, m40, a2, es9, wx_bd, wx_let, wx_st, wx_lit, wx_ga, wx_sa, pk_mul, nI_add, wx_le, wx_lt, wx_eq, wx_en, wx_ne', wx_nn, wx_ltn, wx_len, wx_nlt, wx_nle, wx_bz0, wx_bz1, if_pos, if_neg, wx_ite, Nat.reduceEqDiff, eq_self, if_true, if_false, not_true_eq_false, not_false_eq_true]
        obtain ⟨j4, W4, D4, σ4, τ4, g4, q1, q2, q3, q4, q5, q6, q7, q8, q9, q10, q11, q12, q13, q14, q15, q16, q17⟩ := wl_close hO hI M j2 (wnW W1) (((C0 ++ D) ++ D1) ++ wnD W1) σ3 τ3 wg_N g1 (by omega) (by rw [wx_N]; omega) (by omega) hc3 hm3 n2 o2 n3 o3 v2 v1 (by omega) (by rw [wo_l_app, wo_l_app]; omega)
        have eC2 : f_X6_readCondition_15 (f + 1) 260 σ = wRst f σ4 := by
          rw [eC1, a1 f]
          have e5 : f_X6_readClosing 260 σ2 = wg_bd (f_X6_settle_58 260 σ3) (fun _ s => f_X6_readClosing_4 wg_N 260 s) := by
            rw [e_X6_readClosing, e_X6_settle, n1]
            rfl
          rw [e5, q1, wx_bd]
        have eM2 : f_X12_readAny_9 g 0 (nI (wbr W)) (nI 1) τ = f_X12_readAny_9 g4 0 (nI (wbr W4)) (nI 0) τ4 := by rw [z2, eM1, q2]
        have ea : (((C0 ++ D) ++ D1) ++ wnD W1) ++ D4 = C0 ++ (D ++ (D1 ++ (wnD W1 ++ D4))) := by simp only [List.append_assoc]
        rw [ea] at q7 q9 q13
        have typ : wo_t (D ++ (D1 ++ (wnD W1 ++ D4))) [] = some (true :: List.replicate (wto W4) true) := by
          rw [wo_t_app ht, wo_t_app (a11 _ (by rw [List.length_replicate]; omega)), wo_t_app (wnD_t _ W1), ← z14, ← v3]
          exact q15
        generalize D ++ (D1 ++ (wnD W1 ++ D4)) = E at *
        have fσ : wFx pC σ σ4 := wFx_t (wFx_m pOC z15) (wFx_t (wFx_m pSC a9) (wFx_t (wFx_ntC n4) q16))
        have fτ : wFx qC τ τ4 := wFx_t (wFx_m qOC z16) (wFx_t (wFx_m qSC a10) (wFx_t (wFx_ntM o4) q17))
        have j24 : j < j4 := by omega
        clear q1 q2 eM1 n1 o1 a1 a2 z1 z2 eC1 eC0 q16 q17 q15 ht a11 a5 a6 cc cm cc1 cm1 n2 n3 o2 o3 wc2 wm2 z6 z7 wc wm
        rw [eC2, eM2]
        obtain ⟨j4M, u6, u7, uk⟩ := id q5
        obtain ⟨l1, l2, l3⟩ := uk j4 j4M
        obtain ⟨m1, m2, m3⟩ := hI.1 j4 τ4 q6
        have hvj := hv j4 j4M
        have kl := wKd_lt hvj
        have w26' := wWf_26 q10 q12
        obtain ⟨g4, rfl⟩ : ∃ k, g4 = k + 1 := ⟨g4 - 1, by omega⟩
        obtain ⟨x1, x2, x3, x4, x5⟩ := wpW_f (k := 10) (Or.inl rfl) W4 q10
        have hh := wp10_h q10 q11
        obtain ⟨τ5, t1, t2, t3, t4⟩ := wl_pM (k := 10) (Or.inl rfl) q10 (by omega) q8 q9 (by omega) (by omega) q11
        rcases q7 with ⟨sA, vA, wc4, cc4⟩ | ⟨nA, wc4, cc4⟩
        · -- and
          have jlt := wTo_lt hO j4M (by omega)
          have l1 : σ4 262 j4 = nI 271 := by rw [l1, (wKd_w hvj (r := 5) (by omega)).2 ⟨sA, vA⟩]; rfl
          have y5 := wl_wd1 m1 m2 ⟨sA, vA⟩
          have aw := wl_aw wc4 (by omega) 10 (by omega)
          have aw : f_X6_await 260 (nI 271) σ4 = some (nI 0, wg_u (wg_u σ4 265 (wpW 10 W4).length (nI 271)) 260 13 (nI ((wpW 10 W4).length + 1))) := aw
          have wt := wl_wt t2 (by omega) (nI 10)
          have hmA : RM j4 (wg_u (wg_u τ5 18 (wpW 10 W4).length (nI 10)) 0 32 (nI ((wpW 10 W4).length + 1))) := hI.2.1 j4 τ4 _ q6 (fun a i q => by rw [wx_ur, if_neg (by omega), wx_ur, if_neg (by omega), t4 a i (by omega) (by omega)])
          obtain ⟨τ6, r1', r2', r3'⟩ := hI.2.2 j4 _ jlt hmA
          have hcA : wTc M TS TV TF j4 (wg_u (wg_u σ4 265 (wpW 10 W4).length (nI 271)) 260 13 (nI ((wpW 10 W4).length + 1))) := wTc_fr q5 (fun a i q => by rw [wx_ur, if_neg (by omega), wx_ur, if_neg (by omega)])
          have hcB := wTc_nx hcA jlt
          have eC3 : wRst f σ4 = f_X6_readCondition_15 f 260 (wg_u (wg_u (wg_u σ4 265 (wpW 10 W4).length (nI 271)) 260 13 (nI ((wpW 10 W4).length + 1))) 260 7 (nI (j4 + 1))) := by
            unfold wRst
            simp -implicitDefEqProofs (disch := omega) only [e_X6_readCondition_159, e_X6_readCondition_159__1, e_X6_readCondition_159__2, e_X6_readCondition_159__3, u7, l1, aw, wx_uk, wx_un, pk_us, pk_un, wx_bd, wx_let, wx_st, wx_lit, wx_ga, wx_sa, pk_mul, nI_add, wx_le, wx_lt, wx_eq, wx_en, wx_ne', wx_nn, wx_ltn, wx_len, wx_nlt, wx_nle, wx_bz0, wx_bz1, if_pos, if_neg, wx_ite, Nat.reduceEqDiff, eq_self, if_true, if_false, not_true_eq_false, not_false_eq_true]
          have eM3 : f_X12_readAny_9 (g4 + 1) 0 (nI (wbr W4)) (nI 0) τ4 = f_X12_readAny_9 g4 0 (nI (wbr (10 :: wpW 10 W4))) (nI 1) τ6 := by
            have eb : wbr (10 :: wpW 10 W4) = wbr W4 := x2
            rw [eb]
            simp -implicitDefEqProofs (disch := omega) only [e_X12_readAny_9, e_X12_readAny_9__1, e_X12_readAny_9__2, e_X12_readAny_9__3, e_X12_readAny_9__4, e_X12_readAny_9__5, e_X12_readAny_9__6, e_X12_readAny_9__7, e_X12_readAny_9__8, e_X12_readAny_9__9, e_X12_readAny_9__10, e_X12_readAny_9__11, e_X12_readAny_9__12, e_X12_readAny_9__13, e_X12_readAny_9__14, e_X12_readAny_9__15, e_X12_readAny_9__16, e_X12_readAny_9__17, e_X12_readAny_9__18, e_X12_readAny_9__19, e_X12_readAny_9__20, e_X12_readAny_9__21, e_X12_readAny_9__22, y5, t1, wt, r1', wx_bd, wx_let, wx_st, wx_lit, wx_ga, wx_sa, pk_mul, nI_add, wx_le, wx_lt, wx_eq, wx_en, wx_ne', wx_nn, wx_ltn, wx_len, wx_nlt, wx_nle, wx_bz0, wx_bz1, if_pos, if_neg, wx_ite, Nat.reduceEqDiff, eq_self, if_true, if_false, not_true_eq_false, not_false_eq_true]
          have wcN : wWc (10 :: wpW 10 W4) (wg_u (wg_u (wg_u σ4 265 (wpW 10 W4).length (nI 271)) 260 13 (nI ((wpW 10 W4).length + 1))) 260 7 (nI (j4 + 1))) := by
            obtain ⟨c13, c14, c15, cS⟩ := wc4
            exact ⟨by simp -implicitDefEqProofs (disch := omega) only [wx_uk, wx_un, pk_us, pk_un]; rfl, by simp -implicitDefEqProofs (disch := omega) only [wx_uk, wx_un, pk_us, pk_un]; rw [c14]; rfl, by simp -implicitDefEqProofs (disch := omega) only [wx_uk, wx_un, pk_us, pk_un]; rw [c15]; rfl, by simp -implicitDefEqProofs (disch := omega) only [wx_uk, wx_un, pk_us, pk_un]; rfl, wStk_fr (fun i hi => by simp -implicitDefEqProofs (disch := omega) only [wx_uk, wx_un, pk_us, pk_un]) cS⟩
          have wmN : wWm (10 :: wpW 10 W4) τ6 := by
            obtain ⟨c32, c30, cS⟩ := t2
            exact ⟨by rw [r3' 0 32 (by omega)]; simp -implicitDefEqProofs (disch := omega) only [wx_uk, wx_un, pk_us, pk_un]; rfl, by rw [r3' 0 30 (by omega)]; simp -implicitDefEqProofs (disch := omega) only [wx_uk, wx_un, pk_us, pk_un]; rw [c30]; rfl, by rw [r3' 18 _ (by omega)]; simp -implicitDefEqProofs (disch := omega) only [wx_uk, wx_un, pk_us, pk_un]; rfl, wStk_fr (fun i hi => by rw [r3' 18 _ (by omega)]; simp -implicitDefEqProofs (disch := omega) only [wx_uk, wx_un, pk_us, pk_un]) cS⟩
          have ccN : wCc (C0 ++ (E ++ wpD 10 W4)) (wg_u (wg_u (wg_u σ4 265 (wpW 10 W4).length (nI 271)) 260 13 (nI ((wpW 10 W4).length + 1))) 260 7 (nI (j4 + 1))) := by
            rw [← List.append_assoc]
            exact wCc_at (wCc_at (wCc_fr (by rw [wx_un (by omega)]) (fun i => by rw [wx_un (by omega)]) (fun i => by rw [wx_un (by omega)]) cc4))
          have cmN : wCm (C0 ++ (E ++ wpD 10 W4)) τ6 := by
            rw [← List.append_assoc]
            exact wCm_rd r3' (wCm_fr (by simp -implicitDefEqProofs (disch := omega) only [wx_uk, wx_un, pk_us, pk_un]) (fun i => by simp -implicitDefEqProofs (disch := omega) only [wx_uk, wx_un, pk_us, pk_un]) (fun i => by simp -implicitDefEqProofs (disch := omega) only [wx_uk, wx_un, pk_us, pk_un]) t3)
          rw [eC3, eM3]
          have fσ2 : wFx pC σ (wg_u (wg_u (wg_u σ4 265 (wpW 10 W4).length (nI 271)) 260 13 (nI ((wpW 10 W4).length + 1))) 260 7 (nI (j4 + 1))) := wFx_u (wFx_u (wFx_u fσ rfl) rfl) rfl
          have fτ2 : wFx qC τ τ6 := wFx_t fτ (wFx_t (wFx_stM t4) (wFx_t (wFx_u (wFx_u (wFx_r _ _) rfl) rfl) (wFx_m qOC (wFx_rdO r3'))))
          have tw : wto (10 :: wpW 10 W4) = wto (wpW 10 W4) + 1 := rfl
          rcases ih (j4 + 1) (10 :: wpW 10 W4) (E ++ wpD 10 W4) _ τ6 f g4 (by omega) (by omega) (by omega) hcB r2' wcN wmN ccN cmN ⟨Or.inr (Or.inr (Or.inl ⟨rfl, hh⟩)), x1⟩ (by show wop (wpW 10 W4) ≤ 8; omega) (by rw [← List.append_assoc, wo_l_app]; simp only [List.length_cons]; omega) (by rw [wo_t_app typ, x5, tw]; rfl) with ⟨σ', τ', D', j', e1, e2, e3, e4, e5, e6, e7, e8, e9, e10, e11, e12⟩ | ⟨σ', τ', e1, e2, e3⟩
          · exact Or.inl ⟨σ', τ', D', j', e1, e2, e3, e4, e5, e6, e7, by omega, e9, e10, wFx_t fσ2 e11, wFx_t fτ2 e12⟩
          · exact Or.inr ⟨σ', τ', e1, e2, wE_t fσ2 fτ2 e3⟩
        · have kn5 : wKd (TS j4) (TV j4) ≠ 271 := fun q => nA ((wKd_w hvj (r := 5) (by omega)).1 q)
          have m5 := wl_wd0 (c := 5) hO j4M (by omega) m1 m2 nA
          obtain ⟨y1, y2, y3, y4, y5⟩ := wpW_f (k := 11) (Or.inr rfl) (wpW 10 W4) x1
          have hh2 := wp11_h x1 hh
          obtain ⟨τ6, p1, p2, p3, p4⟩ := wl_pM (k := 11) (Or.inr rfl) x1 (by omega) t2 t3 (by rw [wo_l_app]; omega) (fun _ => hh) (by omega)
          have typ2 : wo_t ((E ++ wpD 10 W4) ++ wpD 11 (wpW 10 W4)) [] = some (true :: List.replicate (wto (wpW 11 (wpW 10 W4))) true) := by
            rw [List.append_assoc, wo_t_app typ, wo_t_app x5]
            exact y5
          have ea2 : ((C0 ++ E) ++ wpD 10 W4) ++ wpD 11 (wpW 10 W4) = C0 ++ ((E ++ wpD 10 W4) ++ wpD 11 (wpW 10 W4)) := by simp only [List.append_assoc]
          have le2 : wo_l (C0 ++ ((E ++ wpD 10 W4) ++ wpD 11 (wpW 10 W4))) + (wpW 11 (wpW 10 W4)).length ≤ j4 := by rw [← ea2, wo_l_app, wo_l_app]; omega
          rw [ea2] at cc4 p3
          generalize (E ++ wpD 10 W4) ++ wpD 11 (wpW 10 W4) = E2 at *
          have hm6 : RM j4 τ6 := hI.2.1 j4 τ4 τ6 q6 (fun a i q => by rw [p4 a i (by omega) (by omega), t4 a i (by omega) (by omega)])
          have fτ6 : wFx qC τ τ6 := wFx_t fτ (wFx_t (wFx_stM t4) (wFx_stM p4))
          generalize hV : wpW 11 (wpW 10 W4) = V at *
          by_cases cO : TS j4 = 2 ∧ TV j4 = 4
          · have jlt := wTo_lt hO j4M (by omega)
            have l1 : σ4 262 j4 = nI 270 := by rw [l1, (wKd_w hvj (r := 4) (by omega)).2 cO]; rfl
            have y4' := wl_wd1 m1 m2 cO
            have aw := wl_aw wc4 (by omega) 11 (by omega)
            have aw : f_X6_await 260 (nI 270) σ4 = some (nI 0, wg_u (wg_u σ4 265 V.length (nI 270)) 260 13 (nI (V.length + 1))) := aw
            have wt := wl_wt p2 (by omega) (nI 11)
            have hmA : RM j4 (wg_u (wg_u τ6 18 V.length (nI 11)) 0 32 (nI (V.length + 1))) := hI.2.1 j4 τ6 _ hm6 (fun a i q => by rw [wx_ur, if_neg (by omega), wx_ur, if_neg (by omega)])
            obtain ⟨τ7, r1', r2', r3'⟩ := hI.2.2 j4 _ jlt hmA
            have hcA : wTc M TS TV TF j4 (wg_u (wg_u σ4 265 V.length (nI 270)) 260 13 (nI (V.length + 1))) := wTc_fr q5 (fun a i q => by rw [wx_ur, if_neg (by omega), wx_ur, if_neg (by omega)])
            have hcB := wTc_nx hcA jlt
            have eC3 : wRst f σ4 = f_X6_readCondition_15 f 260 (wg_u (wg_u (wg_u σ4 265 V.length (nI 270)) 260 13 (nI (V.length + 1))) 260 7 (nI (j4 + 1))) := by
              unfold wRst
              simp -implicitDefEqProofs (disch := omega) only [e_X6_readCondition_159, e_X6_readCondition_159__1, e_X6_readCondition_159__2, e_X6_readCondition_159__3, u7, l1, aw, wx_uk, wx_un, pk_us, pk_un, wx_bd, wx_let, wx_st, wx_lit, wx_ga, wx_sa, pk_mul, nI_add, wx_le, wx_lt, wx_eq, wx_en, wx_ne', wx_nn, wx_ltn, wx_len, wx_nlt, wx_nle, wx_bz0, wx_bz1, if_pos, if_neg, wx_ite, Nat.reduceEqDiff, eq_self, if_true, if_false, not_true_eq_false, not_false_eq_true]
            have eM3 : f_X12_readAny_9 (g4 + 1) 0 (nI (wbr W4)) (nI 0) τ4 = f_X12_readAny_9 g4 0 (nI (wbr (11 :: V))) (nI 1) τ7 := by
              have eb : wbr (11 :: V) = wbr W4 := y2.trans x2
              rw [eb]
              simp -implicitDefEqProofs (disch := omega) only [e_X12_readAny_9, e_X12_readAny_9__1, e_X12_readAny_9__2, e_X12_readAny_9__3, e_X12_readAny_9__4, e_X12_readAny_9__5, e_X12_readAny_9__6, e_X12_readAny_9__7, e_X12_readAny_9__8, e_X12_readAny_9__9, e_X12_readAny_9__10, e_X12_readAny_9__11, e_X12_readAny_9__12, e_X12_readAny_9__13, e_X12_readAny_9__14, e_X12_readAny_9__15, e_X12_readAny_9__16, e_X12_readAny_9__17, e_X12_readAny_9__18, e_X12_readAny_9__19, e_X12_readAny_9__20, e_X12_readAny_9__21, e_X12_readAny_9__22, m5, y4', t1, p1, wt, r1', wx_bd, wx_let, wx_st, wx_lit, wx_ga, wx_sa, pk_mul, nI_add, wx_le, wx_lt, wx_eq, wx_en, wx_ne', wx_nn, wx_ltn, wx_len, wx_nlt, wx_nle, wx_bz0, wx_bz1, if_pos, if_neg, wx_ite, Nat.reduceEqDiff, eq_self, if_true, if_false, not_true_eq_false, not_false_eq_true]
            have wcN : wWc (11 :: V) (wg_u (wg_u (wg_u σ4 265 V.length (nI 270)) 260 13 (nI (V.length + 1))) 260 7 (nI (j4 + 1))) := by
              obtain ⟨c13, c14, c15, cS⟩ := wc4
              exact ⟨by simp -implicitDefEqProofs (disch := omega) only [wx_uk, wx_un, pk_us, pk_un]; rfl, by simp -implicitDefEqProofs (disch := omega) only [wx_uk, wx_un, pk_us, pk_un]; rw [c14]; rfl, by simp -implicitDefEqProofs (disch := omega) only [wx_uk, wx_un, pk_us, pk_un]; rw [c15]; rfl, by simp -implicitDefEqProofs (disch := omega) only [wx_uk, wx_un, pk_us, pk_un]; rfl, wStk_fr (fun i hi => by simp -implicitDefEqProofs (disch := omega) only [wx_uk, wx_un, pk_us, pk_un]) cS⟩
            have wmN : wWm (11 :: V) τ7 := by
              obtain ⟨c32, c30, cS⟩ := p2
              exact ⟨by rw [r3' 0 32 (by omega)]; simp -implicitDefEqProofs (disch := omega) only [wx_uk, wx_un, pk_us, pk_un]; rfl, by rw [r3' 0 30 (by omega)]; simp -implicitDefEqProofs (disch := omega) only [wx_uk, wx_un, pk_us, pk_un]; rw [c30]; rfl, by rw [r3' 18 _ (by omega)]; simp -implicitDefEqProofs (disch := omega) only [wx_uk, wx_un, pk_us, pk_un]; rfl, wStk_fr (fun i hi => by rw [r3' 18 _ (by omega)]; simp -implicitDefEqProofs (disch := omega) only [wx_uk, wx_un, pk_us, pk_un]) cS⟩
            have ccN : wCc (C0 ++ E2) (wg_u (wg_u (wg_u σ4 265 V.length (nI 270)) 260 13 (nI (V.length + 1))) 260 7 (nI (j4 + 1))) := wCc_at (wCc_at (wCc_fr (by rw [wx_un (by omega)]) (fun i => by rw [wx_un (by omega)]) (fun i => by rw [wx_un (by omega)]) cc4))
            have cmN : wCm (C0 ++ E2) τ7 := wCm_rd r3' (wCm_fr (by simp -implicitDefEqProofs (disch := omega) only [wx_uk, wx_un, pk_us, pk_un]) (fun i => by simp -implicitDefEqProofs (disch := omega) only [wx_uk, wx_un, pk_us, pk_un]) (fun i => by simp -implicitDefEqProofs (disch := omega) only [wx_uk, wx_un, pk_us, pk_un]) p3)
            rw [eC3, eM3]
            have fσ2 : wFx pC σ (wg_u (wg_u (wg_u σ4 265 V.length (nI 270)) 260 13 (nI (V.length + 1))) 260 7 (nI (j4 + 1))) := wFx_u (wFx_u (wFx_u fσ rfl) rfl) rfl
            have fτ2 : wFx qC τ τ7 := wFx_t fτ6 (wFx_t (wFx_u (wFx_u (wFx_r _ _) rfl) rfl) (wFx_m qOC (wFx_rdO r3')))
            rcases ih (j4 + 1) (11 :: V) E2 _ τ7 f g4 (by omega) (by omega) (by omega) hcB r2' wcN wmN ccN cmN ⟨Or.inr (Or.inr (Or.inr ⟨rfl, hh2⟩)), y1⟩ (by show wop V ≤ 8; omega) (by simp only [List.length_cons]; omega) (by rw [typ2]; rfl) with ⟨σ', τ', D', j', e1, e2, e3, e4, e5, e6, e7, e8, e9, e10, e11, e12⟩ | ⟨σ', τ', e1, e2, e3⟩
            · exact Or.inl ⟨σ', τ', D', j', e1, e2, e3, e4, e5, e6, e7, by omega, e9, e10, wFx_t fσ2 e11, wFx_t fτ2 e12⟩
            · exact Or.inr ⟨σ', τ', e1, e2, wE_t fσ2 fτ2 e3⟩
          · have kn4 : wKd (TS j4) (TV j4) ≠ 270 := fun q => cO ((wKd_w hvj (r := 4) (by omega)).1 q)
            have m4 := wl_wd0 (c := 4) hO j4M (by omega) m1 m2 cO
            have b15 : σ4 260 15 = nI (wbr W4) := by rw [wc4.2.2.1, y2, x2]
            have bo := wbr_le W4
            by_cases b0 : wbr W4 = 0
            · have hVe : V = [] := by
                rcases hh2 with q | q
                · exact whd_0 y1 q
                · obtain ⟨R, hR⟩ := whd_12 q
                  rw [hR] at y2
                  have y2 : wbr R + 1 = wbr (wpW 10 W4) := y2
                  omega
              rw [hVe] at typ2 p2 le2
              rw [b0] at b15
              refine Or.inl ⟨σ4, τ6, E2, j4, ?_, ?_, q5, hm6, cc4, p3, by omega, by omega, typ2, p2.2.1, fσ, fτ6⟩
              · unfold wRst
                generalize wKd (TS j4) (TV j4) = K at *
                simp -implicitDefEqProofs (disch := omega) only [e_X6_readCondition_153, u7, l1, b15, wx_bd, wx_let, wx_st, wx_lit, wx_ga, wx_sa, pk_mul, nI_add, wx_le, wx_lt, wx_eq, wx_en, wx_ne', wx_nn, wx_ltn, wx_len, wx_nlt, wx_nle, wx_bz0, wx_bz1, if_pos, if_neg, wx_ite, Nat.reduceEqDiff, eq_self, if_true, if_false, not_true_eq_false, not_false_eq_true]
              · simp -implicitDefEqProofs (disch := omega) only [e_X12_readAny_9, e_X12_readAny_9__1, e_X12_readAny_9__2, e_X12_readAny_9__3, e_X12_readAny_9__4, e_X12_readAny_9__5, e_X12_readAny_9__6, e_X12_readAny_9__7, e_X12_readAny_9__8, e_X12_readAny_9__9, e_X12_readAny_9__10, e_X12_readAny_9__11, e_X12_readAny_9__12, e_X12_readAny_9__13, e_X12_readAny_9__14, e_X12_readAny_9__15, e_X12_readAny_9__16, e_X12_readAny_9__17, e_X12_readAny_9__18, e_X12_readAny_9__19, e_X12_readAny_9__20, e_X12_readAny_9__21, e_X12_readAny_9__22, m5, m4, t1, p1, b0, wx_bd, wx_let, wx_st, wx_lit, wx_ga, wx_sa, pk_mul, nI_add, wx_le, wx_lt, wx_eq, wx_en, wx_ne', wx_nn, wx_ltn, wx_len, wx_nlt, wx_nle, wx_bz0, wx_bz1, if_pos, if_neg, wx_ite, Nat.reduceEqDiff, eq_self, if_true, if_false, not_true_eq_false, not_false_eq_true]
            · have fl := wl_fail hO q5 (nI 1)
              obtain ⟨i1, i2, i3⟩ := hI.1 j4 τ6 hm6
              have er := wl_errs (TF := TF) (j := j4) i3 (nI 1)
              have s41 := wl_sg0 (c := 41) hO j4M (by omega) i1 i2 (fun q => q14 ⟨q.1, q.2, by omega⟩)
              refine Or.inr ⟨_, _, ?_, ?_, wE_t fσ fτ6 (wE_mk (wFx_r _ _) (wFx_r _ _) rfl rfl rfl rfl (nI 1) (nI (TF j4)))⟩
              · unfold wRst
                generalize wKd (TS j4) (TV j4) = K at *
                simp -implicitDefEqProofs (disch := omega) only [u7, l1, b15, fl, wx_bd, wx_let, wx_st, wx_lit, wx_ga, wx_sa, pk_mul, nI_add, wx_le, wx_lt, wx_eq, wx_en, wx_ne', wx_nn, wx_ltn, wx_len, wx_nlt, wx_nle, wx_bz0, wx_bz1, if_pos, if_neg, wx_ite, Nat.reduceEqDiff, eq_self, if_true, if_false, not_true_eq_false, not_false_eq_true]
              · simp -implicitDefEqProofs (disch := omega) only [e_X12_readAny_9, e_X12_readAny_9__1, e_X12_readAny_9__2, e_X12_readAny_9__3, e_X12_readAny_9__4, e_X12_readAny_9__5, e_X12_readAny_9__6, e_X12_readAny_9__7, e_X12_readAny_9__8, e_X12_readAny_9__9, e_X12_readAny_9__10, e_X12_readAny_9__11, e_X12_readAny_9__12, e_X12_readAny_9__13, e_X12_readAny_9__14, e_X12_readAny_9__15, e_X12_readAny_9__16, e_X12_readAny_9__17, e_X12_readAny_9__18, e_X12_readAny_9__19, e_X12_readAny_9__20, e_X12_readAny_9__21, e_X12_readAny_9__22, m5, m4, t1, p1, s41, er, wx_bd, wx_let, wx_st, wx_lit, wx_ga, wx_sa, pk_mul, nI_add, wx_le, wx_lt, wx_eq, wx_en, wx_ne', wx_nn, wx_ltn, wx_len, wx_nlt, wx_nle, wx_bz0, wx_bz1, if_pos, if_neg, wx_ite, Nat.reduceEqDiff, eq_self, if_true, if_false, not_true_eq_false, not_false_eq_true]
      · refine Or.inr ⟨σ2, τ2, by rw [eC1]; exact a1 f, ?_, wE_t (wFx_m pOC z15) (wFx_m qOC z16) (wE_SC a3)⟩
        rw [z2]
        simp -implicitDefEqProofs (disch := omega) only [e_X12_readAny_9, e_X12_readAny_9__1, e_X12_readAny_9__2, e_X12_readAny_9__3, e_X12_readAny_9__4, e_X12_readAny_9__5, e_X12_readAny_9__6, e_X12_readAny_9__7, e_X12_readAny_9__8, e_X12_readAny_9__9, e_X12_readAny_9__10, e_X12_readAny_9__11, e_X12_readAny_9__12, e_X12_readAny_9__13, e_X12_readAny_9__14, e_X12_readAny_9__15, e_X12_readAny_9__16, e_X12_readAny_9__17, e_X12_readAny_9__18, e_X12_readAny_9__19, e_X12_readAny_9__20, e_X12_readAny_9__21, e_X12_readAny_9__22, m6, m40, a2, wx_bd, wx_let, wx_st, wx_lit, wx_ga, wx_sa, pk_mul, nI_add, wx_le, wx_lt, wx_eq, wx_en, wx_ne', wx_nn, wx_ltn, wx_len, wx_nlt, wx_nle, wx_bz0, wx_bz1, if_pos, if_neg, wx_ite, Nat.reduceEqDiff, eq_self, if_true, if_false, not_true_eq_false, not_false_eq_true]
end CO

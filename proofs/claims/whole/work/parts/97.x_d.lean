section SV
variable {M : Nat} {TS TV TF : Nat → Nat} {RM : Nat → wg_M → Prop}
set_option maxHeartbeats 1000000 in
theorem wE_t {p q : Nat → Nat → Bool} {σ0 τ0 σ τ σ' τ' : wg_M} (hσ : wFx p σ0 σ) (hτ : wFx q τ0 τ) (h : wE p q σ τ σ' τ') : wE p q σ0 τ0 σ' τ' :=
  ⟨wFx_t (wFx_m wU8_i hσ) h.1, wFx_t hτ h.2.1, h.2.2⟩
set_option maxHeartbeats 1000000 in
theorem wRes_c {g g' : List (Nat × Int32) → Prop} {F G : Option (Int32 × wg_M)} {C D1 : List (Nat × Int32)} {j j2 : Nat} {σ σ2 τ τ2 : wg_M} (h : wRes M TS TV TF RM g' F G (C ++ D1) j2 σ2 τ2) (hσ : wFx pS σ σ2) (hτ : wFx qS τ τ2) (hj : j + wo_l D1 ≤ j2) (hg : ∀ D2, g' D2 → g (D1 ++ D2)) : wRes M TS TV TF RM g F G C j σ τ := by
  rcases h with ⟨σ', τ', D, j', a1, a2, a3, a4, a5, a6, a7, a8, a9, a10⟩ | ⟨σ', τ', a1, a2, a3⟩
  · refine Or.inl ⟨σ', τ', D1 ++ D, j', a1, a2, a3, a4, ?_, ?_, by rw [wo_l_app]; omega, wFx_t hσ a8, wFx_t hτ a9, hg D a10⟩
    · rw [← List.append_assoc]; exact a5
    · rw [← List.append_assoc]; exact a6
  · exact Or.inr ⟨σ', τ', a1, a2, wE_t hσ hτ a3⟩
set_option maxHeartbeats 1000000 in
theorem wFx_at (σ : wg_M) (x : Int32) : wFx pS σ (wg_u σ 260 7 x) := wFx_u (wFx_r _ _) rfl
set_option maxHeartbeats 1000000 in
theorem wFx_rd {τ τ' : wg_M} (h : ∀ a i, ¬ (a = 0 ∧ 16 ≤ i ∧ i ≤ 19) → τ' a i = τ a i) : wFx qS τ τ' := fun a i q => by
  simp only [qS, Bool.or_eq_false_iff, Bool.and_eq_false_iff, beq_eq_false_iff_ne, decide_eq_false_iff_not] at q
  exact h a i (by omega)
set_option maxHeartbeats 1000000 in
theorem wFx_pt {σ σ' : wg_M} (h : ∀ a i, ¬ (a = 266 ∧ i = 2) → a ≠ 267 → a ≠ 268 → σ' a i = σ a i) : wFx pS σ σ' := fun a i q => by
  simp only [pS, Bool.or_eq_false_iff, Bool.and_eq_false_iff, beq_eq_false_iff_ne] at q
  exact h a i (by omega) (by omega) (by omega)
set_option maxHeartbeats 1000000 in
theorem wFx_em {τ τ' : wg_M} (h : ∀ a i, ¬ (a = 0 ∧ i = 29) → ¬ ((a = 16 ∨ a = 17) ∧ 800 ≤ i) → τ' a i = τ a i) : wFx qS τ τ' := fun a i q => by
  simp only [qS, Bool.or_eq_false_iff, Bool.and_eq_false_iff, beq_eq_false_iff_ne, decide_eq_false_iff_not] at q
  exact h a i (by omega) (by omega)
set_option maxHeartbeats 1000000 in
theorem wCc_at {C : List (Nat × Int32)} {σ : wg_M} {i : Nat} {x : Int32} (h : wCc C σ) : wCc C (wg_u σ 260 i x) :=
  wCc_fr (by rw [wx_un (by omega)]) (fun i => by rw [wx_un (by omega)]) (fun i => by rw [wx_un (by omega)]) h
set_option maxHeartbeats 1000000 in
theorem wCm_rd {C : List (Nat × Int32)} {τ τ' : wg_M} (h : ∀ a i, ¬ (a = 0 ∧ 16 ≤ i ∧ i ≤ 19) → τ' a i = τ a i) (c : wCm C τ) : wCm C τ' :=
  wCm_fr (h 0 29 (by omega)) (fun i => h 16 i (by omega)) (fun i => h 17 i (by omega)) c
set_option maxHeartbeats 1000000 in
theorem wTc_pt {j : Nat} {σ σ' : wg_M} (h : ∀ a i, ¬ (a = 266 ∧ i = 2) → a ≠ 267 → a ≠ 268 → σ' a i = σ a i) (hc : wTc M TS TV TF j σ) : wTc M TS TV TF j σ' :=
  wTc_fr hc (fun a i q => h a i (by omega) (by omega) (by omega))
set_option maxHeartbeats 1000000 in
theorem wRM_em {j : Nat} {τ τ' : wg_M} (hI : wTi M TS TV TF RM) (h : ∀ a i, ¬ (a = 0 ∧ i = 29) → ¬ ((a = 16 ∨ a = 17) ∧ 800 ≤ i) → τ' a i = τ a i) (hm : RM j τ) : RM j τ' :=
  hI.2.1 j τ τ' hm (fun a i q => h a i (by omega) (by omega))
set_option maxHeartbeats 1000000 in
theorem wl_prodL (hO : wTo M TS TV) (hI : wTi M TS TV TF RM) : ∀ d j C σ τ f g, M ≤ j + d → d < f → d < g → wTc M TS TV TF j σ → RM j τ → wCc C σ → wCm C τ → wo_l C ≤ j → wRes M TS TV TF RM (fun D => ∀ st : List Bool, st.length < 29 → wo_t D (false :: st) = some (false :: st)) (f_X6_readProduct_9 f 260 σ) (f_X12_readProduct_10 g 0 τ) C j σ τ := by
  obtain ⟨hM, hM0, hv⟩ := id hO
  intro d
  induction d with
  | zero =>
    intro j C σ τ f g hd hf hg hc hm cc cm hb
    obtain ⟨f, rfl⟩ : ∃ k, f = k + 1 := ⟨f - 1, by omega⟩
    obtain ⟨g, rfl⟩ : ∃ k, g = k + 1 := ⟨g - 1, by omega⟩
    obtain ⟨jM, h6, h7, hk⟩ := id hc
    obtain ⟨k1, k2, k3⟩ := hk j jM
    obtain ⟨r1, r2, r3⟩ := hI.1 j τ hm
    obtain rfl : j = M := by omega
    rw [hM0] at k1
    have k1 : σ 262 j = nI 1 := k1
    have n1 := wl_sg0 (c := 42) hO jM (by omega) r1 r2 (by omega)
    have n2 := wl_sg0 (c := 47) hO jM (by omega) r1 r2 (by omega)
    exact Or.inl ⟨σ, τ, [], j, by simp -implicitDefEqProofs (disch := omega) only [e_X6_readProduct_9, e_X6_readProduct_9__1, e_X6_readProduct_9__2, h6, h7, k1, wx_bd, wx_let, wx_st, wx_lit, wx_ga, wx_sa, pk_mul, nI_add, wx_le, wx_lt, wx_eq, wx_en, wx_ne', wx_nn, wx_ltn, wx_len, wx_nlt, wx_nle, wx_bz0, wx_bz1, if_pos, if_neg, wx_ite, Nat.reduceEqDiff, eq_self, if_true, if_false, not_true_eq_false, not_false_eq_true], by simp -implicitDefEqProofs (disch := omega) only [e_X12_readProduct_10, e_X12_readProduct_10__1, e_X12_readProduct_10__2, n1, n2, wx_bd, wx_let, wx_st, wx_lit, wx_ga, wx_sa, pk_mul, nI_add, wx_le, wx_lt, wx_eq, wx_en, wx_ne', wx_nn, wx_ltn, wx_len, wx_nlt, wx_nle, wx_bz0, wx_bz1, if_pos, if_neg, wx_ite, Nat.reduceEqDiff, eq_self, if_true, if_false, not_true_eq_false, not_false_eq_true], hc, hm, by simpa using cc, by simpa using cm, Nat.le_refl _, wFx_r _ _, wFx_r _ _, fun st _ => rfl⟩
  | succ d ih =>
    intro j C σ τ f g hd hf hg hc hm cc cm hb
    obtain ⟨f, rfl⟩ : ∃ k, f = k + 1 := ⟨f - 1, by omega⟩
    obtain ⟨g, rfl⟩ : ∃ k, g = k + 1 := ⟨g - 1, by omega⟩
    obtain ⟨jM, h6, h7, hk⟩ := id hc
    obtain ⟨k1, k2, k3⟩ := hk j jM
    obtain ⟨r1, r2, r3⟩ := hI.1 j τ hm
    have hvj := hv j jM
    have kl := wKd_lt hvj
    by_cases c1 : TS j = 4 ∧ TV j = 42
    · have jlt := wTo_lt hO jM (by omega)
      have y1 := wl_sg1 r1 r2 c1
      rw [(wKd_s hvj (by omega) (by omega)).2 c1] at k1
      have hc1 := wTc_nx hc jlt
      obtain ⟨τ1, t1, t2, t3⟩ := hI.2.2 j τ jlt hm
      have eC : f_X6_readProduct_9 (f + 1) 260 σ = wg_bd (f_X6_readUnit 260 (wg_u σ 260 7 (nI (j + 1)))) (fun v s => if v = nI 0 then some (nI 0, s) else wg_bd (f_X3_put 266 (nI 42) (nI 0) s) (fun _ s => f_X6_readProduct_9 f 260 s)) := by
        simp -implicitDefEqProofs (disch := omega) only [e_X6_readProduct_9, e_X6_readProduct_9__1, e_X6_readProduct_9__2, e_X6_readProduct_48, e_X6_readProduct_48__1, e_X6_readProduct_67, e_X6_readProduct_67__1, e_X6_readProduct_67__2, e_X6_readProduct_94, e_X6_readProduct_94__1, h6, h7, k1, wx_bd, wx_let, wx_st, wx_lit, wx_ga, wx_sa, pk_mul, nI_add, wx_le, wx_lt, wx_eq, wx_en, wx_ne', wx_nn, wx_ltn, wx_len, wx_nlt, wx_nle, wx_bz0, wx_bz1, if_pos, if_neg, wx_ite, Nat.reduceEqDiff, eq_self, if_true, if_false, not_true_eq_false, not_false_eq_true]
        congr 1
      have eM : f_X12_readProduct_10 (g + 1) 0 τ = wg_bd (f_X12_readUnit 0 τ1) (fun v s => if v = -nI 1 then some (-nI 1, s) else wg_bd (f_X12_emits 0 (nI 4) (nI 0) s) (fun _ s => f_X12_readProduct_10 g 0 s)) := by
        simp -implicitDefEqProofs (disch := omega) only [e_X12_readProduct_10, e_X12_readProduct_10__1, e_X12_readProduct_10__2, e_X12_readProduct_28, e_X12_readProduct_28__1, e_X12_readProduct_28__2, e_X12_readProduct_28__3, e_X12_readProduct_57, e_X12_readProduct_57__1, e_X12_readProduct_74, e_X12_readProduct_74__1, y1, t1, wx_bd, wx_let, wx_st, wx_lit, wx_ga, wx_sa, pk_mul, nI_add, wx_le, wx_lt, wx_eq, wx_en, wx_ne', wx_nn, wx_ltn, wx_len, wx_nlt, wx_nle, wx_bz0, wx_bz1, if_pos, if_neg, wx_ite, Nat.reduceEqDiff, eq_self, if_true, if_false, not_true_eq_false, not_false_eq_true]
        congr 1
      rw [eC, eM]
      rcases wl_unit hO hI hc1 t2 (wCc_at cc) (wCm_rd t3 cm) (by omega) with ⟨σ2, τ2, D1, j2, a1, a2, a3, a4, a5, a6, a7, a8, a9, a10⟩ | ⟨σ2, τ2, a1, a2, a3⟩
      · have j2M := a3.1
        have hl1 : wo_l (C ++ D1) < 400 := by rw [wo_l_app]; omega
        obtain ⟨σ3, p1, p2, p3⟩ := wl_put a5 (Nat.lt_of_le_of_lt (wo_len _) hl1) 4 (nI 0)
        obtain ⟨τ3, q1, q2, q3⟩ := wl_emi a6 hl1 4 (nI 0) (nI 0) (by omega) (by omega) (fun _ => rfl)
        have p1 : f_X3_put 266 (nI 42) (nI 0) σ2 = some (nI 0, σ3) := p1
        have res := ih j2 ((C ++ D1) ++ [(4, nI 0)]) σ3 τ3 f g (by omega) (by omega) (by omega) (wTc_pt p3 a3) (wRM_em hI q3 a4) p2 q2 (by rw [wo_l_app, wo_l_app]; show wo_l C + wo_l D1 + 1 ≤ j2; omega)
        rw [a1, a2, wx_bd, wx_bd]
        have n10 : ¬ nI 1 = nI 0 := by decide
        have n01 : ¬ nI 0 = -nI 1 := by decide
        simp only [n10, n01, if_false, p1, q1, wx_bd]
        rw [List.append_assoc] at res
        refine wRes_c res (wFx_t (wFx_at σ _) (wFx_t a8 (wFx_pt p3))) (wFx_t (wFx_rd t3) (wFx_t a9 (wFx_em q3))) (by rw [wo_l_app]; show j + (wo_l D1 + 1) ≤ j2; omega) (fun D2 h2 st hst => ?_)
        rw [List.append_assoc, wo_t_app (a10 (false :: st) (by simp only [List.length_cons]; omega))]
        show wo_t ((4, nI 0) :: D2) (false :: false :: st) = some (false :: st)
        exact h2 st hst
      · refine Or.inr ⟨σ2, τ2, by rw [a1, wx_bd]; rfl, by rw [a2, wx_bd]; rfl, wE_t (wFx_at σ _) (wFx_rd t3) a3⟩
    · have n1 := wl_sg0 (c := 42) hO jM (by omega) r1 r2 c1
      have kn1 : wKd (TS j) (TV j) ≠ 42 := fun q => c1 ((wKd_s hvj (by omega) (by omega)).1 q)
      by_cases c2 : TS j = 4 ∧ TV j = 47
      · have jlt := wTo_lt hO jM (by omega)
        have y1 := wl_sg1 r1 r2 c2
        rw [(wKd_s hvj (by omega) (by omega)).2 c2] at k1
        have hc1 := wTc_nx hc jlt
        obtain ⟨τ1, t1, t2, t3⟩ := hI.2.2 j τ jlt hm
        obtain ⟨j1M, g6, g7, gk⟩ := id hc1
        obtain ⟨l1, l2, l3⟩ := gk (j + 1) j1M
        obtain ⟨m1, m2, m3⟩ := hI.1 (j + 1) τ1 t2
        have hv1 := hv (j + 1) j1M
        have kl1 := wKd_lt hv1
        generalize hσ1 : wg_u σ 260 7 (nI (j + 1)) = σ1 at *
        have eC : f_X6_readProduct_9 (f + 1) 260 σ = wg_bd (f_X6_readNumber 260 (nI 1) (nI 9999) σ1) (fun v s => if v = -nI 1 then some (nI 0, s) else wg_bd (f_X3_put 266 (nI 47) v s) (fun _ s => f_X6_readProduct_9 f 260 s)) := by
          simp -implicitDefEqProofs (disch := omega) only [e_X6_readProduct_9, e_X6_readProduct_9__1, e_X6_readProduct_9__2, e_X6_readProduct_48, e_X6_readProduct_48__1, e_X6_readProduct_67, e_X6_readProduct_67__1, e_X6_readProduct_67__2, h6, h7, k1, hσ1, wx_bd, wx_let, wx_st, wx_lit, wx_ga, wx_sa, pk_mul, nI_add, wx_le, wx_lt, wx_eq, wx_en, wx_ne', wx_nn, wx_ltn, wx_len, wx_nlt, wx_nle, wx_bz0, wx_bz1, if_pos, if_neg, wx_ite, Nat.reduceEqDiff, eq_self, if_true, if_false, not_true_eq_false, not_false_eq_true]
          congr 1
        have fσ : wFx pS σ σ1 := by rw [← hσ1]; exact wFx_at σ _
        have ccn : wCc C σ1 := by rw [← hσ1]; exact wCc_at cc
        by_cases d3 : TS (j + 1) = 3
        · rw [(wKd_n hv1).2 d3] at l1
          have l2 := l2 d3
          have m2 := m2 (by omega)
          rw [d3] at m1
          have x9 : TV (j + 1) ≤ 9999 := by unfold wTv at hv1; omega
          by_cases x0 : TV (j + 1) = 0
          · have fl := wl_fail hO hc1 (nI 2)
            have er := wl_errs (TF := TF) (j := j + 1) m3 (nI 2)
            rw [x0] at l2 m2
            refine Or.inr ⟨_, _, ?_, ?_, wE_t fσ (wFx_rd t3) (wE_mk (wFx_r _ _) (wFx_r _ _) rfl rfl rfl rfl (nI 2) (nI (TF (j + 1))))⟩
            · rw [eC]
              simp -implicitDefEqProofs (disch := omega) only [e_X6_readNumber, e_X6_readNumber__1, e_X6_readNumber__2, e_X6_readNumber__3, e_X6_readNumber__4, e_X6_readNumber__5, e_X6_readNumber__6, e_X6_readNumber__7, e_X11_within, g7, l1, l2, fl, wx_bd, wx_let, wx_st, wx_lit, wx_ga, wx_sa, pk_mul, nI_add, wx_le, wx_lt, wx_eq, wx_en, wx_ne', wx_nn, wx_ltn, wx_len, wx_nlt, wx_nle, wx_bz0, wx_bz1, if_pos, if_neg, wx_ite, Nat.reduceEqDiff, eq_self, if_true, if_false, not_true_eq_false, not_false_eq_true]
            · simp -implicitDefEqProofs (disch := omega) only [e_X12_readProduct_10, e_X12_readProduct_10__1, e_X12_readProduct_10__2, e_X12_readProduct_28, e_X12_readProduct_28__1, e_X12_readProduct_28__2, e_X12_readProduct_28__3, e_X12_readProduct_57, e_X12_readProduct_57__1, n1, y1, t1, m1, m2, er, wx_bd, wx_let, wx_st, wx_lit, wx_ga, wx_sa, pk_mul, nI_add, wx_le, wx_lt, wx_eq, wx_en, wx_ne', wx_nn, wx_ltn, wx_len, wx_nlt, wx_nle, wx_bz0, wx_bz1, if_pos, if_neg, wx_ite, Nat.reduceEqDiff, eq_self, if_true, if_false, not_true_eq_false, not_false_eq_true]
          · have j1lt := wTo_lt hO j1M (by omega)
            have hc2 := wTc_nx hc1 j1lt
            have u7 : wg_u σ1 260 7 (nI (j + 1 + 1)) 263 (j + 1) = nI (TV (j + 1)) := by rw [wx_un (by omega)]; exact l2
            have sb : nI (j + 1 + 1) - nI 1 = nI (j + 1) := wx_sub1 _
            have rn : f_X6_readNumber 260 (nI 1) (nI 9999) σ1 = some (nI (TV (j + 1)), wg_u σ1 260 7 (nI (j + 1 + 1))) := by
              simp -implicitDefEqProofs (disch := omega) only [e_X6_readNumber, e_X6_readNumber__1, e_X6_readNumber__2, e_X6_readNumber__3, e_X6_readNumber__4, e_X6_readNumber__5, e_X6_readNumber__6, e_X6_readNumber__7, e_X11_within, g7, l1, l2, wx_uk, wx_un, pk_us, pk_un, sb, wx_bd, wx_let, wx_st, wx_lit, wx_ga, wx_sa, pk_mul, nI_add, wx_le, wx_lt, wx_eq, wx_en, wx_ne', wx_nn, wx_ltn, wx_len, wx_nlt, wx_nle, wx_bz0, wx_bz1, if_pos, if_neg, wx_ite, Nat.reduceEqDiff, eq_self, if_true, if_false, not_true_eq_false, not_false_eq_true]
            have hl0 : wo_l C + 1 < 400 := by omega
            obtain ⟨σ3, p1, p2, p3⟩ := wl_put (wCc_at (i := 7) (x := nI (j + 1 + 1)) ccn) (Nat.lt_of_le_of_lt (wo_len _) (by omega)) 5 (nI (TV (j + 1)))
            have p1 : f_X3_put 266 (nI 47) (nI (TV (j + 1))) (wg_u σ1 260 7 (nI (j + 1 + 1))) = some (nI 0, σ3) := p1
            obtain ⟨τ2, τ3, e1, e2, e3, e4, e5⟩ := wl_unM hI j1lt t2 (wCm_rd t3 cm) (by omega) 0 (nI (TV (j + 1))) (by omega)
            obtain ⟨τ4, q1, q2, q3⟩ := wl_emi5 e4 hl0
            have n01 : ¬ nI (TV (j + 1)) = -nI 1 := by rw [wx_en (by omega) (by omega) (by omega)]; exact fun q => q
            have mu : f_X12_readUnit 0 τ1 = some (nI 0, τ3) := by
              simp -implicitDefEqProofs (disch := omega) only [e_X12_readUnit, e_X12_readUnit__1, e_X12_readUnit_23, e_X12_readUnit_24, e_X12_readUnit_24__1, e_X12_readUnit_43, e_X12_readUnit_53, e_X12_readUnit_71, e_X12_readUnit_71__1, e_X12_readUnit_71__2, m1, m2, e1, e2, wx_bd, wx_let, wx_st, wx_lit, wx_ga, wx_sa, pk_mul, nI_add, wx_le, wx_lt, wx_eq, wx_en, wx_ne', wx_nn, wx_ltn, wx_len, wx_nlt, wx_nle, wx_bz0, wx_bz1, if_pos, if_neg, wx_ite, Nat.reduceEqDiff, eq_self, if_true, if_false, not_true_eq_false, not_false_eq_true]
            have eM : f_X12_readProduct_10 (g + 1) 0 τ = f_X12_readProduct_10 g 0 τ4 := by
              simp -implicitDefEqProofs (disch := omega) only [e_X12_readProduct_10, e_X12_readProduct_10__1, e_X12_readProduct_10__2, e_X12_readProduct_28, e_X12_readProduct_28__1, e_X12_readProduct_28__2, e_X12_readProduct_28__3, e_X12_readProduct_57, e_X12_readProduct_57__1, e_X12_readProduct_74, e_X12_readProduct_74__1, e_X12_readProduct_94, e_X12_readProduct_94__1, n1, y1, t1, m1, m2, mu, q1, wx_bd, wx_let, wx_st, wx_lit, wx_ga, wx_sa, pk_mul, nI_add, wx_le, wx_lt, wx_eq, wx_en, wx_ne', wx_nn, wx_ltn, wx_len, wx_nlt, wx_nle, wx_bz0, wx_bz1, if_pos, if_neg, wx_ite, Nat.reduceEqDiff, eq_self, if_true, if_false, not_true_eq_false, not_false_eq_true]
            have eC2 : f_X6_readProduct_9 (f + 1) 260 σ = f_X6_readProduct_9 f 260 σ3 := by
              rw [eC, rn, wx_bd]
              simp only [n01, if_false, p1, wx_bd]
            rw [eC2, eM]
            have el : wo_l [(5, nI (TV (j + 1)))] = 2 := rfl
            have res := ih (j + 1 + 1) (C ++ [(5, nI (TV (j + 1)))]) σ3 τ4 f g (by omega) (by omega) (by omega) (wTc_pt p3 hc2) (wRM_em hI q3 e3) p2 q2 (by rw [wo_l_app, el]; omega)
            refine wRes_c res (wFx_t fσ (wFx_t (wFx_at σ1 _) (wFx_pt p3))) (wFx_t (wFx_rd t3) (wFx_t e5 (wFx_em q3))) (by rw [el]; omega) (fun D2 h2 st hst => ?_)
            show wo_t ((5, nI (TV (j + 1))) :: D2) (false :: st) = some (false :: st)
            have ti : (nI (TV (j + 1))).toInt = ((TV (j + 1) : Nat) : Int) := nI_toInt (by omega)
            rw [wo_t, if_pos (by rw [ti]; omega)]
            exact h2 st hst
        · have fl := wl_fail hO hc1 (nI 1)
          have er := wl_errs (TF := TF) (j := j + 1) m3 (nI 1)
          have kn : wKd (TS (j + 1)) (TV (j + 1)) ≠ 2 := fun q => d3 ((wKd_n hv1).1 q)
          have ts : TS (j + 1) < 100 := by unfold wTv at hv1; omega
          generalize wKd (TS (j + 1)) (TV (j + 1)) = K at *
          refine Or.inr ⟨_, _, ?_, ?_, wE_t fσ (wFx_rd t3) (wE_mk (wFx_r _ _) (wFx_r _ _) rfl rfl rfl rfl (nI 1) (nI (TF (j + 1))))⟩
          · rw [eC]
            simp -implicitDefEqProofs (disch := omega) only [e_X6_readNumber, e_X6_readNumber__1, e_X6_readNumber__2, e_X6_readNumber__3, e_X6_readNumber__4, e_X6_readNumber__5, e_X6_readNumber__6, e_X6_readNumber__7, g7, l1, fl, wx_bd, wx_let, wx_st, wx_lit, wx_ga, wx_sa, pk_mul, nI_add, wx_le, wx_lt, wx_eq, wx_en, wx_ne', wx_nn, wx_ltn, wx_len, wx_nlt, wx_nle, wx_bz0, wx_bz1, if_pos, if_neg, wx_ite, Nat.reduceEqDiff, eq_self, if_true, if_false, not_true_eq_false, not_false_eq_true]
          · simp -implicitDefEqProofs (disch := omega) only [e_X12_readProduct_10, e_X12_readProduct_10__1, e_X12_readProduct_10__2, e_X12_readProduct_28, e_X12_readProduct_28__1, e_X12_readProduct_28__2, e_X12_readProduct_28__3, e_X12_readProduct_57, e_X12_readProduct_57__1, n1, y1, t1, m1, er, wx_bd, wx_let, wx_st, wx_lit, wx_ga, wx_sa, pk_mul, nI_add, wx_le, wx_lt, wx_eq, wx_en, wx_ne', wx_nn, wx_ltn, wx_len, wx_nlt, wx_nle, wx_bz0, wx_bz1, if_pos, if_neg, wx_ite, Nat.reduceEqDiff, eq_self, if_true, if_false, not_true_eq_false, not_false_eq_true]
      · have n2 := wl_sg0 (c := 47) hO jM (by omega) r1 r2 c2
        have kn2 : wKd (TS j) (TV j) ≠ 47 := fun q => c2 ((wKd_s hvj (by omega) (by omega)).1 q)
        generalize wKd (TS j) (TV j) = K at *
        exact Or.inl ⟨σ, τ, [], j, by simp -implicitDefEqProofs (disch := omega) only [e_X6_readProduct_9, e_X6_readProduct_9__1, e_X6_readProduct_9__2, h6, h7, k1, wx_bd, wx_let, wx_st, wx_lit, wx_ga, wx_sa, pk_mul, nI_add, wx_le, wx_lt, wx_eq, wx_en, wx_ne', wx_nn, wx_ltn, wx_len, wx_nlt, wx_nle, wx_bz0, wx_bz1, if_pos, if_neg, wx_ite, Nat.reduceEqDiff, eq_self, if_true, if_false, not_true_eq_false, not_false_eq_true], by simp -implicitDefEqProofs (disch := omega) only [e_X12_readProduct_10, e_X12_readProduct_10__1, e_X12_readProduct_10__2, n1, n2, wx_bd, wx_let, wx_st, wx_lit, wx_ga, wx_sa, pk_mul, nI_add, wx_le, wx_lt, wx_eq, wx_en, wx_ne', wx_nn, wx_ltn, wx_len, wx_nlt, wx_nle, wx_bz0, wx_bz1, if_pos, if_neg, wx_ite, Nat.reduceEqDiff, eq_self, if_true, if_false, not_true_eq_false, not_false_eq_true], hc, hm, by simpa using cc, by simpa using cm, Nat.le_refl _, wFx_r _ _, wFx_r _ _, fun st _ => rfl⟩
end SV

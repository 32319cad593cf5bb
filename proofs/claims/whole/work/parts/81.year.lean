/-! moth, ageing, deeds by hand, a YEAR -/
set_option maxHeartbeats 1000000 in
theorem sc_n35 : wg_n Sc 35 = 16 := by decide
set_option maxHeartbeats 1000000 in
theorem sc_n36 : wg_n Sc 36 = 16 := by decide
set_option maxHeartbeats 1000000 in
theorem sc_n37 : wg_n Sc 37 = 16 := by decide
set_option maxHeartbeats 1000000 in
theorem sc_n38 : wg_n Sc 38 = 16 := by decide
set_option maxHeartbeats 1000000 in
theorem sc_n40 : wg_n Sc 40 = 16 := by decide
set_option maxHeartbeats 1000000 in
theorem sc_n41 : wg_n Sc 41 = 16 := by decide
set_option maxHeartbeats 1000000 in
theorem sc_n42 : wg_n Sc 42 = 16 := by decide
set_option maxHeartbeats 1000000 in
theorem sc_n43 : wg_n Sc 43 = 16 := by decide
set_option maxHeartbeats 1000000 in
theorem sc_n45 : wg_n Sc 45 = 16 := by decide
set_option maxHeartbeats 1000000 in
theorem sc_n46 : wg_n Sc 46 = 16 := by decide
set_option maxHeartbeats 1000000 in
theorem sc_n47 : wg_n Sc 47 = 16 := by decide
set_option maxHeartbeats 1000000 in
theorem sc_n48 : wg_n Sc 48 = 16 := by decide
set_option maxHeartbeats 1000000 in
theorem sc_r34_0 : wg_r Sc 34 0 = 35 := by decide
set_option maxHeartbeats 1000000 in
theorem sc_r34_1 : wg_r Sc 34 1 = 36 := by decide
set_option maxHeartbeats 1000000 in
theorem sc_r34_2 : wg_r Sc 34 2 = 37 := by decide
set_option maxHeartbeats 1000000 in
theorem sc_r34_3 : wg_r Sc 34 3 = 38 := by decide
set_option maxHeartbeats 1000000 in
theorem sc_r39_0 : wg_r Sc 39 0 = 40 := by decide
set_option maxHeartbeats 1000000 in
theorem sc_r39_1 : wg_r Sc 39 1 = 41 := by decide
set_option maxHeartbeats 1000000 in
theorem sc_r39_2 : wg_r Sc 39 2 = 42 := by decide
set_option maxHeartbeats 1000000 in
theorem sc_r39_3 : wg_r Sc 39 3 = 43 := by decide
set_option maxHeartbeats 1000000 in
theorem sc_r44_0 : wg_r Sc 44 0 = 45 := by decide
set_option maxHeartbeats 1000000 in
theorem sc_r44_1 : wg_r Sc 44 1 = 46 := by decide
set_option maxHeartbeats 1000000 in
theorem sc_r44_2 : wg_r Sc 44 2 = 47 := by decide
set_option maxHeartbeats 1000000 in
theorem sc_r44_3 : wg_r Sc 44 3 = 48 := by decide
section YR
variable {th : Bool} {nw nj nc : Nat} {σ τ : wg_M}
set_option maxHeartbeats 1000000 in
theorem wl_wearTail (h : wX th nw nj nc σ τ) {w : Nat} (hw : w < nw) : ∃ σ' τ', f_X1_wearOut_81 279 (nI w) σ = some (nI 0, σ') ∧ f_X12_wears_81 0 (nI w) τ = some (nI 0, τ') ∧ wX th nw nj nc σ' τ' ∧ wFr σ σ' τ τ' := by
  obtain ⟨n1, n2, n3, n4, n5, n6⟩ := id h.1
  obtain ⟨r, r1, r2, r3⟩ := wl_wearer h.2.1 h.1 (nI w)
  obtain ⟨k, k8, hk, -⟩ := wb_k h.2.1 hw
  rcases r3 with ⟨rfl, -⟩ | ⟨j, hj, rfl, r4⟩
  · refine ⟨σ, τ, ?_, ?_, h, wFr_rfl _ _⟩
    · simp -implicitDefEqProofs (disch := omega) only [e_X1_wearOut_81, e_X1_wearOut_81__1, e_X1_wearOut_81__2, r1, wx_bd, wx_let, wx_st, wx_lit, wx_ga, wx_sa, pk_mul, nI_add, wx_le, wx_lt, wx_eq, wx_en, wx_ne', wx_nn, wx_ltn, wx_len, wx_nlt, wx_nle, wx_bz0, wx_bz1, if_pos, if_neg, wx_ite, Nat.reduceEqDiff, eq_self, if_true, if_false, not_true_eq_false, not_false_eq_true]
    · obtain ⟨N, hN5⟩ : ∃ N, wg_N = N + 1 := ⟨4999, rfl⟩
      rw [e_X12_wears_81, hN5]
      by_cases ck : k = 0
      · simp -implicitDefEqProofs (disch := omega) only [e_X12_wears_83, e_X12_wears_83__1, e_X12_wears_83__2, e_X12_wears_83__3, e_X12_wears_83__4, e_X12_wears_83__5, e_X12_wears_83__6, e_X12_wears_83__7, e_X12_wears_83__8, hk, wx_bd, wx_let, wx_st, wx_lit, wx_ga, wx_sa, pk_mul, nI_add, wx_le, wx_lt, wx_eq, wx_en, wx_ne', wx_nn, wx_ltn, wx_len, wx_nlt, wx_nle, wx_bz0, wx_bz1, if_pos, if_neg, wx_ite, Nat.reduceEqDiff, eq_self, if_true, if_false, not_true_eq_false, not_false_eq_true]
      · simp -implicitDefEqProofs (disch := omega) only [e_X12_wears_83, e_X12_wears_83__1, e_X12_wears_83__2, e_X12_wears_83__3, e_X12_wears_83__4, e_X12_wears_83__5, e_X12_wears_83__6, e_X12_wears_83__7, e_X12_wears_83__8, hk, r2, wx_bd, wx_let, wx_st, wx_lit, wx_ga, wx_sa, pk_mul, nI_add, wx_le, wx_lt, wx_eq, wx_en, wx_ne', wx_nn, wx_ltn, wx_len, wx_nlt, wx_nle, wx_bz0, wx_bz1, if_pos, if_neg, wx_ite, Nat.reduceEqDiff, eq_self, if_true, if_false, not_true_eq_false, not_false_eq_true]
  · obtain ⟨σ', τ', a1, a2, a3, a4⟩ := wl_wear_l hw k8 k 0 wg_N wg_N σ τ h hk ⟨j, hj, r4⟩ (by omega) (by rw [wx_N]; omega) (by rw [wx_N]; omega)
    refine ⟨σ', τ', ?_, ?_, a3, a4⟩
    · simp -implicitDefEqProofs (disch := omega) only [e_X1_wearOut_81, e_X1_wearOut_81__1, e_X1_wearOut_81__2, e_X9_weigh, r1, a1, wx_bd, wx_let, wx_st, wx_lit, wx_ga, wx_sa, pk_mul, nI_add, wx_le, wx_lt, wx_eq, wx_en, wx_ne', wx_nn, wx_ltn, wx_len, wx_nlt, wx_nle, wx_bz0, wx_bz1, if_pos, if_neg, wx_ite, Nat.reduceEqDiff, eq_self, if_true, if_false, not_true_eq_false, not_false_eq_true]
    · simp -implicitDefEqProofs only [e_X12_wears_81, wx_lit]
      exact a2
set_option maxHeartbeats 1000000 in
theorem wl_wearOut (h : wX th nw nj nc σ τ) {w : Nat} (hw : w < nw) : ∃ σ' τ', f_X1_wearOut 279 (nI w) σ = some (nI 0, σ') ∧ f_X12_wears 0 (nI w) τ = some (nI 0, τ') ∧ wX th nw nj nc σ' τ' ∧ wFr σ σ' τ τ' := by
  obtain ⟨n1, n2, n3, n4, n5, n6⟩ := id h.1
  have e4 := wb_hair h.2.1 hw
  obtain ⟨g, s1, t1, -, m2, m3, m4, m5⟩ := wl_moth h.2.1 h.1 h.2.2.2.1.1 hw
  obtain ⟨X1, F1⟩ := wX_s h m4 m5
  obtain ⟨v, hv⟩ : ∃ v, v = (if nI 0 ≤ τ 1 (43 + w) - nI g then τ 1 (43 + w) - nI g else nI 0) := ⟨_, rfl⟩
  obtain ⟨X2, F2⟩ := wl_setW (c := 4) (o := 43) (v := v) X1 hw (Or.inl ⟨rfl, rfl⟩)
  obtain ⟨s2, hs2⟩ : ∃ s2, s2 = wg_u s1 4 w v := ⟨_, rfl⟩
  obtain ⟨t2, ht2⟩ : ∃ t2, t2 = wg_u t1 1 (43 + w) v := ⟨_, rfl⟩
  rw [← hs2, ← ht2] at X2 F2
  have F02 := wFr_tr F1 F2
  have s24 : s2 4 w = v := by rw [hs2, wx_uk, pk_us]
  have t243 : t2 1 (43 + w) = v := by rw [ht2, wx_uk, pk_us]
  have hc : f_X1_wearOut 279 (nI w) σ = q_X1_wearOut__5 (nI w) s2 v := by
    simp -implicitDefEqProofs (disch := omega) only [e_X1_wearOut, e_X1_wearOut__1, e_X1_wearOut__2, e_X1_wearOut__3, e_X1_wearOut__4, e4, m2, wl_max, ← hv, ← hs2, s24, wx_bd, wx_let, wx_st, wx_lit, wx_ga, wx_sa, pk_mul, nI_add, wx_le, wx_lt, wx_eq, wx_en, wx_ne', wx_nn, wx_ltn, wx_len, wx_nlt, wx_nle, wx_bz0, wx_bz1, if_pos, if_neg, wx_ite, Nat.reduceEqDiff, eq_self, if_true, if_false, not_true_eq_false, not_false_eq_true]
  have hm : f_X12_wears 0 (nI w) τ = q_X12_wears__5 (nI w) t2 v := by
    simp -implicitDefEqProofs (disch := omega) only [e_X12_wears, e_X12_wears__1, e_X12_wears__2, e_X12_wears__3, e_X12_wears__4, m3, wl_greater, ← hv, ← ht2, t243, wx_bd, wx_let, wx_st, wx_lit, wx_ga, wx_sa, pk_mul, nI_add, wx_le, wx_lt, wx_eq, wx_en, wx_ne', wx_nn, wx_ltn, wx_len, wx_nlt, wx_nle, wx_bz0, wx_bz1, if_pos, if_neg, wx_ite, Nat.reduceEqDiff, eq_self, if_true, if_false, not_true_eq_false, not_false_eq_true]
  rw [hc, hm]
  obtain ⟨k, k8, hk, -⟩ := wb_k X2.2.1 hw
  have s7 := wb_rules X2.2.1 hw
  rw [hk] at s7
  by_cases cv : v = nI 0
  · by_cases ck : k = 0
    · obtain ⟨σ', τ', a1, a2, a3, a4⟩ := wl_wearTail X2 hw
      refine ⟨σ', τ', ?_, ?_, a3, wFr_tr F02 a4⟩
      · simp -implicitDefEqProofs (disch := omega) only [e_X1_wearOut, e_X1_wearOut__1, e_X1_wearOut__2, e_X1_wearOut__3, e_X1_wearOut__4, e_X1_wearOut__5, e_X1_wearOut__6, e_X1_wearOut__7, e_X1_wearOut__8, e_X1_wearOut__9, s7, cv, a1, wx_bd, wx_let, wx_st, wx_lit, wx_ga, wx_sa, pk_mul, nI_add, wx_le, wx_lt, wx_eq, wx_en, wx_ne', wx_nn, wx_ltn, wx_len, wx_nlt, wx_nle, wx_bz0, wx_bz1, if_pos, if_neg, wx_ite, Nat.reduceEqDiff, eq_self, if_true, if_false, not_true_eq_false, not_false_eq_true]
      · simp -implicitDefEqProofs (disch := omega) only [e_X12_wears, e_X12_wears__1, e_X12_wears__2, e_X12_wears__3, e_X12_wears__4, e_X12_wears__5, e_X12_wears__6, e_X12_wears__7, e_X12_wears__8, e_X12_wears__9, e_X12_wears__10, e_X12_wears__11, hk, cv, a2, wx_bd, wx_let, wx_st, wx_lit, wx_ga, wx_sa, pk_mul, nI_add, wx_le, wx_lt, wx_eq, wx_en, wx_ne', wx_nn, wx_ltn, wx_len, wx_nlt, wx_nle, wx_bz0, wx_bz1, if_pos, if_neg, wx_ite, Nat.reduceEqDiff, eq_self, if_true, if_false, not_true_eq_false, not_false_eq_true]
    · have hk0 : 0 < k := by omega
      have e8 := wb_cause X2.2.1 hw hk k8 hk0
      simp only [Nat.add_zero, Nat.mul_zero] at e8
      obtain ⟨l, l1, l2⟩ := X2.2.1.1.2.2.2.2.2.2
      have e9 := wb_lines X2.2.1
      rw [l2] at e9
      obtain ⟨y, hy⟩ : ∃ y, y = t2 1 (75 + 24 * w) := ⟨_, rfl⟩
      rw [← hy] at e8
      obtain ⟨X3, F3⟩ := wl_noteB (a := nI 3) (b := nI w) (c := y) X2 l2 l1
      have nM := wl_noteM (a := nI 3) (b := nI w) (c := y) X2.2.2.2.2 l2 l1
      obtain ⟨L, hL⟩ : ∃ L : wg_M → wg_M, L = wnC th l (s2 1 7) (nI 3) (nI w) y := ⟨_, rfl⟩
      have LL : wLL L := by rw [hL]; exact wLL_n _ _ _ _ _ _
      obtain ⟨t3, ht3⟩ : ∃ t3, t3 = wnM th l (t2 1 0) (nI 3) (nI w) y t2 := ⟨_, rfl⟩
      rw [← hL, ← ht3] at X3 F3
      rw [← ht3] at nM
      have hk3 : t3 1 (67 + w) = nI k := by rw [ht3, wnM_1 (by omega)]; exact hk
      obtain ⟨sd, td1, td2, V1, d1, -, -, -, d5, d6, d7, d8⟩ := wl_drop X2.2.1 X2.1 hw hk k8 hk0
      obtain ⟨se, te1, te2, V, e1, e2, e3, e4', e5, e6, e7, e8'⟩ := wl_drop X3.2.1 X3.1 hw hk3 k8 hk0
      have dL := wl_drop_L LL (by omega) s7 k8 hk0 (wl_cs X2.2.1 hw hk k8) d1
      rw [e1] at dL
      simp only [Option.some.injEq, Prod.mk.injEq, true_and] at dL
      obtain ⟨Xe, Fe⟩ := wX_g X3 e6 e7 e5
      have nC : f_X1_note 279 (nI 3) (nI w) y sd = some (nI 0, se) := by
        have hth : wTh th sd τ := ⟨by rw [d6 279 (by omega)]; exact X2.2.2.2.2.1, h.2.2.2.2.2⟩
        have := wl_noteC (σ := sd) (a := nI 3) (b := nI w) (c := y) hth (by rw [d6 1 (by omega)]; exact e9) l1
        rw [this, d6 1 (by omega), dL, hL]
      obtain ⟨σ', τ', a1, a2, a3, a4⟩ := wl_wearTail Xe hw
      refine ⟨σ', τ', ?_, ?_, a3, wFr_tr F02 (wFr_tr F3 (wFr_tr Fe a4))⟩
      · simp -implicitDefEqProofs (disch := omega) only [e_X1_wearOut, e_X1_wearOut__1, e_X1_wearOut__2, e_X1_wearOut__3, e_X1_wearOut__4, e_X1_wearOut__5, e_X1_wearOut__6, e_X1_wearOut__7, e_X1_wearOut__8, e_X1_wearOut__9, s7, cv, e8, d1, nC, a1, wx_bd, wx_let, wx_st, wx_lit, wx_ga, wx_sa, pk_mul, nI_add, wx_le, wx_lt, wx_eq, wx_en, wx_ne', wx_nn, wx_ltn, wx_len, wx_nlt, wx_nle, wx_bz0, wx_bz1, if_pos, if_neg, wx_ite, Nat.reduceEqDiff, eq_self, if_true, if_false, not_true_eq_false, not_false_eq_true]
      · simp -implicitDefEqProofs (disch := omega) only [e_X12_wears, e_X12_wears__1, e_X12_wears__2, e_X12_wears__3, e_X12_wears__4, e_X12_wears__5, e_X12_wears__6, e_X12_wears__7, e_X12_wears__8, e_X12_wears__9, e_X12_wears__10, e_X12_wears__11, e_X12_ruleAt, hk, cv, Nat.mul_zero, Nat.add_zero, ← hy, nM, e2, e3, a2, wx_bd, wx_let, wx_st, wx_lit, wx_ga, wx_sa, pk_mul, nI_add, wx_le, wx_lt, wx_eq, wx_en, wx_ne', wx_nn, wx_ltn, wx_len, wx_nlt, wx_nle, wx_bz0, wx_bz1, if_pos, if_neg, wx_ite, Nat.reduceEqDiff, eq_self, if_true, if_false, not_true_eq_false, not_false_eq_true]
  · obtain ⟨σ', τ', a1, a2, a3, a4⟩ := wl_wearTail X2 hw
    refine ⟨σ', τ', ?_, ?_, a3, wFr_tr F02 a4⟩
    · simp -implicitDefEqProofs (disch := omega) only [e_X1_wearOut, e_X1_wearOut__1, e_X1_wearOut__2, e_X1_wearOut__3, e_X1_wearOut__4, e_X1_wearOut__5, e_X1_wearOut__6, e_X1_wearOut__7, e_X1_wearOut__8, e_X1_wearOut__9, cv, a1, wx_bd, wx_let, wx_st, wx_lit, wx_ga, wx_sa, pk_mul, nI_add, wx_le, wx_lt, wx_eq, wx_en, wx_ne', wx_nn, wx_ltn, wx_len, wx_nlt, wx_nle, wx_bz0, wx_bz1, if_pos, if_neg, wx_ite, Nat.reduceEqDiff, eq_self, if_true, if_false, not_true_eq_false, not_false_eq_true]
    · simp -implicitDefEqProofs (disch := omega) only [e_X12_wears, e_X12_wears__1, e_X12_wears__2, e_X12_wears__3, e_X12_wears__4, e_X12_wears__5, e_X12_wears__6, e_X12_wears__7, e_X12_wears__8, e_X12_wears__9, e_X12_wears__10, e_X12_wears__11, cv, a2, wx_bd, wx_let, wx_st, wx_lit, wx_ga, wx_sa, pk_mul, nI_add, wx_le, wx_lt, wx_eq, wx_en, wx_ne', wx_nn, wx_ltn, wx_len, wx_nlt, wx_nle, wx_bz0, wx_bz1, if_pos, if_neg, wx_ite, Nat.reduceEqDiff, eq_self, if_true, if_false, not_true_eq_false, not_false_eq_true]
set_option maxHeartbeats 1000000 in
theorem wl_grow (h : wX th nw nj nc σ τ) {j : Nat} (hj : j < nj) : ∃ z v σ' τ', z ≤ 1 ∧ f_X1_growsOldAndDies 279 (nI j) σ = some (nI z, σ') ∧ f_X12_lesser 0 (nI 120) (τ 1 (3 + j) + nI 1) τ = some (v, τ) ∧ f_X12_isEnding 0 (nI j) (wg_u τ 1 (3 + j) v) = some (nI z, τ') ∧ wX th nw nj nc σ' τ' ∧ wFr σ σ' τ τ' := by
  obtain ⟨n1, n2, n3, n4, n5, n6⟩ := id h.1
  have e12 := wb_age h.2.1 hj
  obtain ⟨v, hv⟩ : ∃ v, v = (if τ 1 (3 + j) + nI 1 ≤ nI 120 then τ 1 (3 + j) + nI 1 else nI 120) := ⟨_, rfl⟩
  obtain ⟨X1, F1⟩ := wl_setJ (c := 12) (o := 3) (v := v) h hj (Or.inl ⟨rfl, rfl⟩)
  obtain ⟨g, s2, t2, g0, g1, g2, g3, g4⟩ := wl_dies X1.2.1 X1.1 X1.2.2.2.1.1 hj
  obtain ⟨X2, F2⟩ := wX_s X1 g3 g4
  have F02 := wFr_tr F1 F2
  have a2 : s2 12 j = v := by rw [g3 12 (by omega) (by omega), wx_uk, pk_us]
  have a3 : t2 1 (3 + j) = v := by rw [g4 1 (by omega) (by omega), wx_uk, pk_us]
  have hless : f_X12_lesser 0 (nI 120) (τ 1 (3 + j) + nI 1) τ = some (v, τ) := by rw [wl_lesser, hv]
  have hc : f_X1_growsOldAndDies 279 (nI j) σ = q_X1_growsOldAndDies__4 (nI j) (nI g) s2 := by
    simp -implicitDefEqProofs (disch := omega) only [e_X1_growsOldAndDies, e_X1_growsOldAndDies__1, e_X1_growsOldAndDies__2, e_X1_growsOldAndDies__3, e12, wl_min, ← hv, g1, wx_bd, wx_let, wx_st, wx_lit, wx_ga, wx_sa, pk_mul, nI_add, wx_le, wx_lt, wx_eq, wx_en, wx_ne', wx_nn, wx_ltn, wx_len, wx_nlt, wx_nle, wx_bz0, wx_bz1, if_pos, if_neg, wx_ite, Nat.reduceEqDiff, eq_self, if_true, if_false, not_true_eq_false, not_false_eq_true]
  have hm : f_X12_isEnding 0 (nI j) (wg_u τ 1 (3 + j) v) = (if v = nI 120 then f_X12_isEnding_24 0 (nI g) (nI 1) t2 else f_X12_isEnding_24 0 (nI g) (nI 0) t2) := by
    simp -implicitDefEqProofs (disch := omega) only [e_X12_isEnding, e_X12_isEnding__1, e_X12_isEnding__2, g2, a3, wx_bd, wx_let, wx_st, wx_lit, wx_ga, wx_sa, pk_mul, nI_add, wx_le, wx_lt, wx_eq, wx_en, wx_ne', wx_nn, wx_ltn, wx_len, wx_nlt, wx_nle, wx_bz0, wx_bz1, if_pos, if_neg, wx_ite, Nat.reduceEqDiff, eq_self, if_true, if_false, not_true_eq_false, not_false_eq_true]
  have hth := X2.2.2.2.2
  cases th
  · have h6 : s2 279 6 = nI 0 := hth.1
    have h5 : t2 0 5 = nI 0 := hth.2
    by_cases cg : g = 0
    · by_cases ca : v = nI 120
      · refine ⟨1, v, s2, t2, by omega, ?_, hless, ?_, X2, F02⟩
        · rw [hc]; simp -implicitDefEqProofs (disch := omega) only [e_X1_growsOldAndDies_96, e_X1_growsOldAndDies_78, e_X1_growsOldAndDies_78__1, e_X1_growsOldAndDies_78__1, e_X1_growsOldAndDies_50, e_X1_growsOldAndDies_77, e_X1_growsOldAndDies_76, e_X1_growsOldAndDies, e_X1_growsOldAndDies__1, e_X1_growsOldAndDies__2, e_X1_growsOldAndDies__3, e_X1_growsOldAndDies__4, e_X1_growsOldAndDies__5, e_X1_growsOldAndDies__1, e_X1_growsOldAndDies__2, e_X1_growsOldAndDies__3, e_X1_growsOldAndDies__4, e_X1_growsOldAndDies__5, h6, cg, a2, ca, wx_bd, wx_let, wx_st, wx_lit, wx_ga, wx_sa, pk_mul, nI_add, wx_le, wx_lt, wx_eq, wx_en, wx_ne', wx_nn, wx_ltn, wx_len, wx_nlt, wx_nle, wx_bz0, wx_bz1, if_pos, if_neg, wx_ite, Nat.reduceEqDiff, eq_self, if_true, if_false, not_true_eq_false, not_false_eq_true]
        · rw [hm]; simp -implicitDefEqProofs (disch := omega) only [e_X12_isEnding_45, e_X12_isEnding_24, e_X12_isEnding_24__1, e_X12_isEnding_24__1, e_X12_isEnding, e_X12_isEnding__1, e_X12_isEnding__2, e_X12_isEnding__1, e_X12_isEnding__2, ca, h5, cg, wx_bd, wx_let, wx_st, wx_lit, wx_ga, wx_sa, pk_mul, nI_add, wx_le, wx_lt, wx_eq, wx_en, wx_ne', wx_nn, wx_ltn, wx_len, wx_nlt, wx_nle, wx_bz0, wx_bz1, if_pos, if_neg, wx_ite, Nat.reduceEqDiff, eq_self, if_true, if_false, not_true_eq_false, not_false_eq_true]
      · refine ⟨0, v, s2, t2, by omega, ?_, hless, ?_, X2, F02⟩
        · rw [hc]; simp -implicitDefEqProofs (disch := omega) only [e_X1_growsOldAndDies_96, e_X1_growsOldAndDies_78, e_X1_growsOldAndDies_78__1, e_X1_growsOldAndDies_78__1, e_X1_growsOldAndDies_50, e_X1_growsOldAndDies_77, e_X1_growsOldAndDies_76, e_X1_growsOldAndDies, e_X1_growsOldAndDies__1, e_X1_growsOldAndDies__2, e_X1_growsOldAndDies__3, e_X1_growsOldAndDies__4, e_X1_growsOldAndDies__5, e_X1_growsOldAndDies__1, e_X1_growsOldAndDies__2, e_X1_growsOldAndDies__3, e_X1_growsOldAndDies__4, e_X1_growsOldAndDies__5, h6, cg, a2, ca, wx_bd, wx_let, wx_st, wx_lit, wx_ga, wx_sa, pk_mul, nI_add, wx_le, wx_lt, wx_eq, wx_en, wx_ne', wx_nn, wx_ltn, wx_len, wx_nlt, wx_nle, wx_bz0, wx_bz1, if_pos, if_neg, wx_ite, Nat.reduceEqDiff, eq_self, if_true, if_false, not_true_eq_false, not_false_eq_true]
        · rw [hm]; simp -implicitDefEqProofs (disch := omega) only [e_X12_isEnding_45, e_X12_isEnding_24, e_X12_isEnding_24__1, e_X12_isEnding_24__1, e_X12_isEnding, e_X12_isEnding__1, e_X12_isEnding__2, e_X12_isEnding__1, e_X12_isEnding__2, ca, h5, cg, wx_bd, wx_let, wx_st, wx_lit, wx_ga, wx_sa, pk_mul, nI_add, wx_le, wx_lt, wx_eq, wx_en, wx_ne', wx_nn, wx_ltn, wx_len, wx_nlt, wx_nle, wx_bz0, wx_bz1, if_pos, if_neg, wx_ite, Nat.reduceEqDiff, eq_self, if_true, if_false, not_true_eq_false, not_false_eq_true]
    · have d1 := wb_draws X2.2.1
      obtain ⟨D, hD⟩ : ∃ D, D = nI 1664525 * t2 1 1 + nI 1013904223 := ⟨_, rfl⟩
      obtain ⟨X3, F3⟩ := wl_setD X2 D
      have hD2 : t2 1 1 * nI 1664525 + nI 1013904223 = D := by rw [hD, Int32.mul_comm]
      obtain ⟨R, hR⟩ : ∃ R, R = wg_ush D (nI 8) - wg_ush D (nI 8) / nI 1000 * nI 1000 := ⟨_, rfl⟩
      have hd0 : ¬ nI 1000 = nI 0 := by decide
      have dC : f_X0_draw 1 (nI 1000) s2 = some (R, wg_u s2 1 8 D) := by
        simp -implicitDefEqProofs (disch := omega) only [e_X0_draw, e_X0_draw__1, e_X0_draw__2, wg_rm, d1, hD2, hR, wx_uk, wx_un, pk_us, pk_un, wx_bd, wx_let, wx_st, wx_lit, wx_ga, wx_sa, pk_mul, nI_add, wx_le, wx_lt, wx_eq, wx_en, wx_ne', wx_nn, wx_ltn, wx_len, wx_nlt, wx_nle, wx_bz0, wx_bz1, if_pos, if_neg, wx_ite, Nat.reduceEqDiff, eq_self, if_true, if_false, not_true_eq_false, not_false_eq_true]
      have dM : f_X12_draw 0 (nI 1000) t2 = some (R, wg_u t2 1 1 D) := by
        simp -implicitDefEqProofs (disch := omega) only [e_X12_draw, e_X12_draw__1, e_X12_draw__2, e_X12_draw__3, e_X12_draw__4, wg_rm, ← hD, hR, wx_uk, wx_un, pk_us, pk_un, wx_bd, wx_let, wx_st, wx_lit, wx_ga, wx_sa, pk_mul, nI_add, wx_le, wx_lt, wx_eq, wx_en, wx_ne', wx_nn, wx_ltn, wx_len, wx_nlt, wx_nle, wx_bz0, wx_bz1, if_pos, if_neg, wx_ite, Nat.reduceEqDiff, eq_self, if_true, if_false, not_true_eq_false, not_false_eq_true]
      have a2' : wg_u s2 1 8 D 12 j = v := by rw [wx_un (by omega)]; exact a2
      by_cases cr : nI g ≤ R
      · by_cases ca : v = nI 120
        · refine ⟨1, v, _, _, by omega, ?_, hless, ?_, X3, wFr_tr F02 F3⟩
          · rw [hc]; simp -implicitDefEqProofs (disch := omega) only [e_X1_growsOldAndDies_96, e_X1_growsOldAndDies_78, e_X1_growsOldAndDies_78__1, e_X1_growsOldAndDies_78__1, e_X1_growsOldAndDies_50, e_X1_growsOldAndDies_77, e_X1_growsOldAndDies_76, e_X1_growsOldAndDies, e_X1_growsOldAndDies__1, e_X1_growsOldAndDies__2, e_X1_growsOldAndDies__3, e_X1_growsOldAndDies__4, e_X1_growsOldAndDies__5, e_X1_growsOldAndDies__1, e_X1_growsOldAndDies__2, e_X1_growsOldAndDies__3, e_X1_growsOldAndDies__4, e_X1_growsOldAndDies__5, h6, dC, cr, a2', ca, wx_bd, wx_let, wx_st, wx_lit, wx_ga, wx_sa, pk_mul, nI_add, wx_le, wx_lt, wx_eq, wx_en, wx_ne', wx_nn, wx_ltn, wx_len, wx_nlt, wx_nle, wx_bz0, wx_bz1, if_pos, if_neg, wx_ite, Nat.reduceEqDiff, eq_self, if_true, if_false, not_true_eq_false, not_false_eq_true]
          · rw [hm]; simp -implicitDefEqProofs (disch := omega) only [e_X12_isEnding_45, e_X12_isEnding_24, e_X12_isEnding_24__1, e_X12_isEnding_24__1, e_X12_isEnding, e_X12_isEnding__1, e_X12_isEnding__2, e_X12_isEnding__1, e_X12_isEnding__2, ca, h5, dM, cr, wx_bd, wx_let, wx_st, wx_lit, wx_ga, wx_sa, pk_mul, nI_add, wx_le, wx_lt, wx_eq, wx_en, wx_ne', wx_nn, wx_ltn, wx_len, wx_nlt, wx_nle, wx_bz0, wx_bz1, if_pos, if_neg, wx_ite, Nat.reduceEqDiff, eq_self, if_true, if_false, not_true_eq_false, not_false_eq_true]
        · refine ⟨0, v, _, _, by omega, ?_, hless, ?_, X3, wFr_tr F02 F3⟩
          · rw [hc]; simp -implicitDefEqProofs (disch := omega) only [e_X1_growsOldAndDies_96, e_X1_growsOldAndDies_78, e_X1_growsOldAndDies_78__1, e_X1_growsOldAndDies_78__1, e_X1_growsOldAndDies_50, e_X1_growsOldAndDies_77, e_X1_growsOldAndDies_76, e_X1_growsOldAndDies, e_X1_growsOldAndDies__1, e_X1_growsOldAndDies__2, e_X1_growsOldAndDies__3, e_X1_growsOldAndDies__4, e_X1_growsOldAndDies__5, e_X1_growsOldAndDies__1, e_X1_growsOldAndDies__2, e_X1_growsOldAndDies__3, e_X1_growsOldAndDies__4, e_X1_growsOldAndDies__5, h6, dC, cr, a2', ca, wx_bd, wx_let, wx_st, wx_lit, wx_ga, wx_sa, pk_mul, nI_add, wx_le, wx_lt, wx_eq, wx_en, wx_ne', wx_nn, wx_ltn, wx_len, wx_nlt, wx_nle, wx_bz0, wx_bz1, if_pos, if_neg, wx_ite, Nat.reduceEqDiff, eq_self, if_true, if_false, not_true_eq_false, not_false_eq_true]
          · rw [hm]; simp -implicitDefEqProofs (disch := omega) only [e_X12_isEnding_45, e_X12_isEnding_24, e_X12_isEnding_24__1, e_X12_isEnding_24__1, e_X12_isEnding, e_X12_isEnding__1, e_X12_isEnding__2, e_X12_isEnding__1, e_X12_isEnding__2, ca, h5, dM, cr, wx_bd, wx_let, wx_st, wx_lit, wx_ga, wx_sa, pk_mul, nI_add, wx_le, wx_lt, wx_eq, wx_en, wx_ne', wx_nn, wx_ltn, wx_len, wx_nlt, wx_nle, wx_bz0, wx_bz1, if_pos, if_neg, wx_ite, Nat.reduceEqDiff, eq_self, if_true, if_false, not_true_eq_false, not_false_eq_true]
      · refine ⟨1, v, _, _, by omega, ?_, hless, ?_, X3, wFr_tr F02 F3⟩
        · rw [hc]; simp -implicitDefEqProofs (disch := omega) only [e_X1_growsOldAndDies_96, e_X1_growsOldAndDies_78, e_X1_growsOldAndDies_78__1, e_X1_growsOldAndDies_78__1, e_X1_growsOldAndDies_50, e_X1_growsOldAndDies_77, e_X1_growsOldAndDies_76, e_X1_growsOldAndDies, e_X1_growsOldAndDies__1, e_X1_growsOldAndDies__2, e_X1_growsOldAndDies__3, e_X1_growsOldAndDies__4, e_X1_growsOldAndDies__5, e_X1_growsOldAndDies__1, e_X1_growsOldAndDies__2, e_X1_growsOldAndDies__3, e_X1_growsOldAndDies__4, e_X1_growsOldAndDies__5, h6, dC, cr, wx_bd, wx_let, wx_st, wx_lit, wx_ga, wx_sa, pk_mul, nI_add, wx_le, wx_lt, wx_eq, wx_en, wx_ne', wx_nn, wx_ltn, wx_len, wx_nlt, wx_nle, wx_bz0, wx_bz1, if_pos, if_neg, wx_ite, Nat.reduceEqDiff, eq_self, if_true, if_false, not_true_eq_false, not_false_eq_true]
        · by_cases ca : v = nI 120
          · rw [hm]; simp -implicitDefEqProofs (disch := omega) only [e_X12_isEnding_45, e_X12_isEnding_24, e_X12_isEnding_24__1, e_X12_isEnding_24__1, e_X12_isEnding, e_X12_isEnding__1, e_X12_isEnding__2, e_X12_isEnding__1, e_X12_isEnding__2, ca, h5, dM, cr, wx_bd, wx_let, wx_st, wx_lit, wx_ga, wx_sa, pk_mul, nI_add, wx_le, wx_lt, wx_eq, wx_en, wx_ne', wx_nn, wx_ltn, wx_len, wx_nlt, wx_nle, wx_bz0, wx_bz1, if_pos, if_neg, wx_ite, Nat.reduceEqDiff, eq_self, if_true, if_false, not_true_eq_false, not_false_eq_true]
          · rw [hm]; simp -implicitDefEqProofs (disch := omega) only [e_X12_isEnding_45, e_X12_isEnding_24, e_X12_isEnding_24__1, e_X12_isEnding_24__1, e_X12_isEnding, e_X12_isEnding__1, e_X12_isEnding__2, e_X12_isEnding__1, e_X12_isEnding__2, ca, h5, dM, cr, wx_bd, wx_let, wx_st, wx_lit, wx_ga, wx_sa, pk_mul, nI_add, wx_le, wx_lt, wx_eq, wx_en, wx_ne', wx_nn, wx_ltn, wx_len, wx_nlt, wx_nle, wx_bz0, wx_bz1, if_pos, if_neg, wx_ite, Nat.reduceEqDiff, eq_self, if_true, if_false, not_true_eq_false, not_false_eq_true]
  · have h6 : s2 279 6 = nI 1 := hth.1
    have h5 : t2 0 5 = nI 1 := hth.2
    by_cases cg : g < 500
    · by_cases ca : v = nI 120
      · refine ⟨1, v, s2, t2, by omega, ?_, hless, ?_, X2, F02⟩
        · rw [hc]; simp -implicitDefEqProofs (disch := omega) only [e_X1_growsOldAndDies_96, e_X1_growsOldAndDies_78, e_X1_growsOldAndDies_78__1, e_X1_growsOldAndDies_78__1, e_X1_growsOldAndDies_50, e_X1_growsOldAndDies_77, e_X1_growsOldAndDies_76, e_X1_growsOldAndDies, e_X1_growsOldAndDies__1, e_X1_growsOldAndDies__2, e_X1_growsOldAndDies__3, e_X1_growsOldAndDies__4, e_X1_growsOldAndDies__5, e_X1_growsOldAndDies__1, e_X1_growsOldAndDies__2, e_X1_growsOldAndDies__3, e_X1_growsOldAndDies__4, e_X1_growsOldAndDies__5, h6, a2, ca, wx_bd, wx_let, wx_st, wx_lit, wx_ga, wx_sa, pk_mul, nI_add, wx_le, wx_lt, wx_eq, wx_en, wx_ne', wx_nn, wx_ltn, wx_len, wx_nlt, wx_nle, wx_bz0, wx_bz1, if_pos, if_neg, wx_ite, Nat.reduceEqDiff, eq_self, if_true, if_false, not_true_eq_false, not_false_eq_true]
        · rw [hm]; simp -implicitDefEqProofs (disch := omega) only [e_X12_isEnding_45, e_X12_isEnding_24, e_X12_isEnding_24__1, e_X12_isEnding_24__1, e_X12_isEnding, e_X12_isEnding__1, e_X12_isEnding__2, e_X12_isEnding__1, e_X12_isEnding__2, ca, h5, wx_bd, wx_let, wx_st, wx_lit, wx_ga, wx_sa, pk_mul, nI_add, wx_le, wx_lt, wx_eq, wx_en, wx_ne', wx_nn, wx_ltn, wx_len, wx_nlt, wx_nle, wx_bz0, wx_bz1, if_pos, if_neg, wx_ite, Nat.reduceEqDiff, eq_self, if_true, if_false, not_true_eq_false, not_false_eq_true]
      · refine ⟨0, v, s2, t2, by omega, ?_, hless, ?_, X2, F02⟩
        · rw [hc]; simp -implicitDefEqProofs (disch := omega) only [e_X1_growsOldAndDies_96, e_X1_growsOldAndDies_78, e_X1_growsOldAndDies_78__1, e_X1_growsOldAndDies_78__1, e_X1_growsOldAndDies_50, e_X1_growsOldAndDies_77, e_X1_growsOldAndDies_76, e_X1_growsOldAndDies, e_X1_growsOldAndDies__1, e_X1_growsOldAndDies__2, e_X1_growsOldAndDies__3, e_X1_growsOldAndDies__4, e_X1_growsOldAndDies__5, e_X1_growsOldAndDies__1, e_X1_growsOldAndDies__2, e_X1_growsOldAndDies__3, e_X1_growsOldAndDies__4, e_X1_growsOldAndDies__5, h6, a2, ca, wx_bd, wx_let, wx_st, wx_lit, wx_ga, wx_sa, pk_mul, nI_add, wx_le, wx_lt, wx_eq, wx_en, wx_ne', wx_nn, wx_ltn, wx_len, wx_nlt, wx_nle, wx_bz0, wx_bz1, if_pos, if_neg, wx_ite, Nat.reduceEqDiff, eq_self, if_true, if_false, not_true_eq_false, not_false_eq_true]
        · rw [hm]; simp -implicitDefEqProofs (disch := omega) only [e_X12_isEnding_45, e_X12_isEnding_24, e_X12_isEnding_24__1, e_X12_isEnding_24__1, e_X12_isEnding, e_X12_isEnding__1, e_X12_isEnding__2, e_X12_isEnding__1, e_X12_isEnding__2, ca, h5, wx_bd, wx_let, wx_st, wx_lit, wx_ga, wx_sa, pk_mul, nI_add, wx_le, wx_lt, wx_eq, wx_en, wx_ne', wx_nn, wx_ltn, wx_len, wx_nlt, wx_nle, wx_bz0, wx_bz1, if_pos, if_neg, wx_ite, Nat.reduceEqDiff, eq_self, if_true, if_false, not_true_eq_false, not_false_eq_true]
    · refine ⟨1, v, s2, t2, by omega, ?_, hless, ?_, X2, F02⟩
      · rw [hc]; simp -implicitDefEqProofs (disch := omega) only [e_X1_growsOldAndDies_96, e_X1_growsOldAndDies_78, e_X1_growsOldAndDies_78__1, e_X1_growsOldAndDies_78__1, e_X1_growsOldAndDies_50, e_X1_growsOldAndDies_77, e_X1_growsOldAndDies_76, e_X1_growsOldAndDies, e_X1_growsOldAndDies__1, e_X1_growsOldAndDies__2, e_X1_growsOldAndDies__3, e_X1_growsOldAndDies__4, e_X1_growsOldAndDies__5, e_X1_growsOldAndDies__1, e_X1_growsOldAndDies__2, e_X1_growsOldAndDies__3, e_X1_growsOldAndDies__4, e_X1_growsOldAndDies__5, h6, wx_bd, wx_let, wx_st, wx_lit, wx_ga, wx_sa, pk_mul, nI_add, wx_le, wx_lt, wx_eq, wx_en, wx_ne', wx_nn, wx_ltn, wx_len, wx_nlt, wx_nle, wx_bz0, wx_bz1, if_pos, if_neg, wx_ite, Nat.reduceEqDiff, eq_self, if_true, if_false, not_true_eq_false, not_false_eq_true]
      · by_cases ca : v = nI 120
        · rw [hm]; simp -implicitDefEqProofs (disch := omega) only [e_X12_isEnding_45, e_X12_isEnding_24, e_X12_isEnding_24__1, e_X12_isEnding_24__1, e_X12_isEnding, e_X12_isEnding__1, e_X12_isEnding__2, e_X12_isEnding__1, e_X12_isEnding__2, ca, h5, wx_bd, wx_let, wx_st, wx_lit, wx_ga, wx_sa, pk_mul, nI_add, wx_le, wx_lt, wx_eq, wx_en, wx_ne', wx_nn, wx_ltn, wx_len, wx_nlt, wx_nle, wx_bz0, wx_bz1, if_pos, if_neg, wx_ite, Nat.reduceEqDiff, eq_self, if_true, if_false, not_true_eq_false, not_false_eq_true]
        · rw [hm]; simp -implicitDefEqProofs (disch := omega) only [e_X12_isEnding_45, e_X12_isEnding_24, e_X12_isEnding_24__1, e_X12_isEnding_24__1, e_X12_isEnding, e_X12_isEnding__1, e_X12_isEnding__2, e_X12_isEnding__1, e_X12_isEnding__2, ca, h5, wx_bd, wx_let, wx_st, wx_lit, wx_ga, wx_sa, pk_mul, nI_add, wx_le, wx_lt, wx_eq, wx_en, wx_ne', wx_nn, wx_ltn, wx_len, wx_nlt, wx_nle, wx_bz0, wx_bz1, if_pos, if_neg, wx_ite, Nat.reduceEqDiff, eq_self, if_true, if_false, not_true_eq_false, not_false_eq_true]
/-- what is done to a WIG: its kind, and what it is done with -/
def wDo (nj k : Nat) (v : Int32) : Prop := (k = 0 ∧ ∃ j, j < nj ∧ v = nI j) ∨ k = 1 ∨ k = 2 ∨ (k = 3 ∧ ∃ g, 1 ≤ g ∧ g ≤ 99 ∧ v = nI g)
set_option maxHeartbeats 1000000 in
theorem wl_can (h : wX th nw nj nc σ τ) {w k : Nat} {v : Int32} (hw : w < nw) (hd : wDo nj k v) : ∃ z, z ≤ 1 ∧ f_X1_canDo 279 (nI k) (nI w) v σ = some (nI z, σ) ∧ f_X12_canAct 0 (nI k) (nI w) v τ = some (nI z, τ) ∧ (k = 1 → z = 1 → ∃ j, j < nj ∧ τ 1 (13 + j) = nI (w + 1)) := by
  obtain ⟨n1, n2, n3, n4, n5, n6⟩ := id h.1
  have e8 := wb_nw h.2.1
  have hw8 : f_X9_has 2 (nI w) σ = some (nI 1, σ) := by simp -implicitDefEqProofs (disch := omega) only [e_X9_has, e8, wx_bd, wx_let, wx_st, wx_lit, wx_ga, wx_sa, pk_mul, nI_add, wx_le, wx_lt, wx_eq, wx_en, wx_ne', wx_nn, wx_ltn, wx_len, wx_nlt, wx_nle, wx_bz0, wx_bz1, if_pos, if_neg, wx_ite, Nat.reduceEqDiff, eq_self, if_true, if_false, not_true_eq_false, not_false_eq_true]
  rcases hd with ⟨rfl, j, hj, rfl⟩ | rfl | rfl | ⟨rfl, g, g1, g2, rfl⟩
  · have e14 := wb_worn h.2.1 hj
    rcases wl_alive h.2.1 h.1 hj with ⟨-, c1, c2⟩ | ⟨-, c1, c2⟩
    · by_cases cw : τ 1 (13 + j) - nI 1 = -nI 1
      · exact ⟨1, by omega, by simp -implicitDefEqProofs (disch := omega) only [e_X1_canDo, e_X1_canDo__1, e_X1_canDo__2, e_X1_canDo__3, e_X1_canDo__4, e_X1_canDo__5, e_X1_canDo__6, hw8, wx_swk0, wx_swk1, wx_swk2, wx_swk3, wx_swk4, wx_swk5, wx_swk6, wx_swk7, c1, e14, cw, wx_bd, wx_let, wx_st, wx_lit, wx_ga, wx_sa, pk_mul, nI_add, wx_le, wx_lt, wx_eq, wx_en, wx_ne', wx_nn, wx_ltn, wx_len, wx_nlt, wx_nle, wx_bz0, wx_bz1, if_pos, if_neg, wx_ite, Nat.reduceEqDiff, eq_self, if_true, if_false, not_true_eq_false, not_false_eq_true], by simp -implicitDefEqProofs (disch := omega) only [e_X12_canAct, e_X12_canAct__1, e_X12_canAct__2, e_X12_canAct__3, e_X12_canAct__4, e_X12_wigOf, e_X12_wigOf__1, c2, cw, wx_bd, wx_let, wx_st, wx_lit, wx_ga, wx_sa, pk_mul, nI_add, wx_le, wx_lt, wx_eq, wx_en, wx_ne', wx_nn, wx_ltn, wx_len, wx_nlt, wx_nle, wx_bz0, wx_bz1, if_pos, if_neg, wx_ite, Nat.reduceEqDiff, eq_self, if_true, if_false, not_true_eq_false, not_false_eq_true], fun q => by omega⟩
      · exact ⟨0, by omega, by simp -implicitDefEqProofs (disch := omega) only [e_X1_canDo, e_X1_canDo__1, e_X1_canDo__2, e_X1_canDo__3, e_X1_canDo__4, e_X1_canDo__5, e_X1_canDo__6, hw8, wx_swk0, wx_swk1, wx_swk2, wx_swk3, wx_swk4, wx_swk5, wx_swk6, wx_swk7, c1, e14, cw, wx_bd, wx_let, wx_st, wx_lit, wx_ga, wx_sa, pk_mul, nI_add, wx_le, wx_lt, wx_eq, wx_en, wx_ne', wx_nn, wx_ltn, wx_len, wx_nlt, wx_nle, wx_bz0, wx_bz1, if_pos, if_neg, wx_ite, Nat.reduceEqDiff, eq_self, if_true, if_false, not_true_eq_false, not_false_eq_true], by simp -implicitDefEqProofs (disch := omega) only [e_X12_canAct, e_X12_canAct__1, e_X12_canAct__2, e_X12_canAct__3, e_X12_canAct__4, e_X12_wigOf, e_X12_wigOf__1, c2, cw, wx_bd, wx_let, wx_st, wx_lit, wx_ga, wx_sa, pk_mul, nI_add, wx_le, wx_lt, wx_eq, wx_en, wx_ne', wx_nn, wx_ltn, wx_len, wx_nlt, wx_nle, wx_bz0, wx_bz1, if_pos, if_neg, wx_ite, Nat.reduceEqDiff, eq_self, if_true, if_false, not_true_eq_false, not_false_eq_true], fun q => by omega⟩
    · exact ⟨0, by omega, by simp -implicitDefEqProofs (disch := omega) only [e_X1_canDo, e_X1_canDo__1, e_X1_canDo__2, e_X1_canDo__3, e_X1_canDo__4, e_X1_canDo__5, e_X1_canDo__6, hw8, wx_swk0, wx_swk1, wx_swk2, wx_swk3, wx_swk4, wx_swk5, wx_swk6, wx_swk7, c1, wx_bd, wx_let, wx_st, wx_lit, wx_ga, wx_sa, pk_mul, nI_add, wx_le, wx_lt, wx_eq, wx_en, wx_ne', wx_nn, wx_ltn, wx_len, wx_nlt, wx_nle, wx_bz0, wx_bz1, if_pos, if_neg, wx_ite, Nat.reduceEqDiff, eq_self, if_true, if_false, not_true_eq_false, not_false_eq_true], by simp -implicitDefEqProofs (disch := omega) only [e_X12_canAct, e_X12_canAct__1, e_X12_canAct__2, e_X12_canAct__3, e_X12_canAct__4, c2, wx_bd, wx_let, wx_st, wx_lit, wx_ga, wx_sa, pk_mul, nI_add, wx_le, wx_lt, wx_eq, wx_en, wx_ne', wx_nn, wx_ltn, wx_len, wx_nlt, wx_nle, wx_bz0, wx_bz1, if_pos, if_neg, wx_ite, Nat.reduceEqDiff, eq_self, if_true, if_false, not_true_eq_false, not_false_eq_true], fun q => by omega⟩
  · obtain ⟨r, r1, r2, r3⟩ := wl_wearer h.2.1 h.1 (nI w)
    rcases r3 with ⟨rfl, -⟩ | ⟨j, hj, rfl, r4⟩
    · exact ⟨0, by omega, by simp -implicitDefEqProofs (disch := omega) only [e_X1_canDo, e_X1_canDo__1, e_X1_canDo__4, hw8, wx_swk1, r1, wx_bd, wx_let, wx_st, wx_lit, wx_ga, wx_sa, pk_mul, nI_add, wx_le, wx_lt, wx_eq, wx_en, wx_ne', wx_nn, wx_ltn, wx_len, wx_nlt, wx_nle, wx_bz0, wx_bz1, if_pos, if_neg, wx_ite, Nat.reduceEqDiff, eq_self, if_true, if_false, not_true_eq_false, not_false_eq_true], by simp -implicitDefEqProofs (disch := omega) only [e_X12_canAct, e_X12_canAct__1, e_X12_canAct__2, e_X12_canAct__3, e_X12_canAct__4, r2, wx_bd, wx_let, wx_st, wx_lit, wx_ga, wx_sa, pk_mul, nI_add, wx_le, wx_lt, wx_eq, wx_en, wx_ne', wx_nn, wx_ltn, wx_len, wx_nlt, wx_nle, wx_bz0, wx_bz1, if_pos, if_neg, wx_ite, Nat.reduceEqDiff, eq_self, if_true, if_false, not_true_eq_false, not_false_eq_true], fun _ q => by omega⟩
    · refine ⟨1, by omega, by simp -implicitDefEqProofs (disch := omega) only [e_X1_canDo, e_X1_canDo__1, e_X1_canDo__4, hw8, wx_swk1, r1, wx_bd, wx_let, wx_st, wx_lit, wx_ga, wx_sa, pk_mul, nI_add, wx_le, wx_lt, wx_eq, wx_en, wx_ne', wx_nn, wx_ltn, wx_len, wx_nlt, wx_nle, wx_bz0, wx_bz1, if_pos, if_neg, wx_ite, Nat.reduceEqDiff, eq_self, if_true, if_false, not_true_eq_false, not_false_eq_true], by simp -implicitDefEqProofs (disch := omega) only [e_X12_canAct, e_X12_canAct__1, e_X12_canAct__2, e_X12_canAct__3, e_X12_canAct__4, r2, wx_bd, wx_let, wx_st, wx_lit, wx_ga, wx_sa, pk_mul, nI_add, wx_le, wx_lt, wx_eq, wx_en, wx_ne', wx_nn, wx_ltn, wx_len, wx_nlt, wx_nle, wx_bz0, wx_bz1, if_pos, if_neg, wx_ite, Nat.reduceEqDiff, eq_self, if_true, if_false, not_true_eq_false, not_false_eq_true], fun _ _ => ⟨j, hj, ?_⟩⟩
      rw [← Int32.sub_add_cancel (a := τ 1 (13 + j)) (b := nI 1), r4, nI_add]
  · obtain ⟨k, k8, hk, -⟩ := wb_k h.2.1 hw
    have r1 := wl_knows h.2.1 h.1 hw hk k8 v
    have r2 := wl_rulesFor h.1 hw hk k8 v
    have hq := wh_n_le (fun i => decide (τ 1 (75 + 24 * w + 3 * i) = v)) k
    generalize wh_n (fun i => decide (τ 1 (75 + 24 * w + 3 * i) = v)) k = q at r1 r2 hq
    by_cases cq : q = 0
    · subst cq
      simp only [if_true] at r1
      exact ⟨0, by omega, by simp -implicitDefEqProofs (disch := omega) only [e_X1_canDo, e_X1_canDo__1, e_X1_canDo__5, hw8, wx_swk2, r1, wx_bd, wx_let, wx_st, wx_lit, wx_ga, wx_sa, pk_mul, nI_add, wx_le, wx_lt, wx_eq, wx_en, wx_ne', wx_nn, wx_ltn, wx_len, wx_nlt, wx_nle, wx_bz0, wx_bz1, if_pos, if_neg, wx_ite, Nat.reduceEqDiff, eq_self, if_true, if_false, not_true_eq_false, not_false_eq_true], by simp -implicitDefEqProofs (disch := omega) only [e_X12_canAct, e_X12_canAct__1, e_X12_canAct__2, e_X12_canAct__3, e_X12_canAct__4, r2, wx_bd, wx_let, wx_st, wx_lit, wx_ga, wx_sa, pk_mul, nI_add, wx_le, wx_lt, wx_eq, wx_en, wx_ne', wx_nn, wx_ltn, wx_len, wx_nlt, wx_nle, wx_bz0, wx_bz1, if_pos, if_neg, wx_ite, Nat.reduceEqDiff, eq_self, if_true, if_false, not_true_eq_false, not_false_eq_true], fun q => by omega⟩
    · simp only [cq, if_false] at r1
      refine ⟨1, by omega, by simp -implicitDefEqProofs (disch := omega) only [e_X1_canDo, e_X1_canDo__1, e_X1_canDo__5, hw8, wx_swk2, r1, wx_bd, wx_let, wx_st, wx_lit, wx_ga, wx_sa, pk_mul, nI_add, wx_le, wx_lt, wx_eq, wx_en, wx_ne', wx_nn, wx_ltn, wx_len, wx_nlt, wx_nle, wx_bz0, wx_bz1, if_pos, if_neg, wx_ite, Nat.reduceEqDiff, eq_self, if_true, if_false, not_true_eq_false, not_false_eq_true], by simp -implicitDefEqProofs (disch := omega) only [e_X12_canAct_61, e_X12_canAct, e_X12_canAct__1, e_X12_canAct__2, e_X12_canAct__3, e_X12_canAct__4, e_X12_canAct__1, e_X12_canAct__2, e_X12_canAct__3, e_X12_canAct__4, r2, wx_bd, wx_let, wx_st, wx_lit, wx_ga, wx_sa, pk_mul, nI_add, wx_le, wx_lt, wx_eq, wx_en, wx_ne', wx_nn, wx_ltn, wx_len, wx_nlt, wx_nle, wx_bz0, wx_bz1, if_pos, if_neg, wx_ite, Nat.reduceEqDiff, eq_self, if_true, if_false, not_true_eq_false, not_false_eq_true], fun q => by omega⟩
  · have i3 : f_X11_within (nI g) (nI 1) (nI 99) σ = some (nI 1, σ) := by simp -implicitDefEqProofs (disch := omega) only [e_X11_within, wx_bd, wx_let, wx_st, wx_lit, wx_ga, wx_sa, pk_mul, nI_add, wx_le, wx_lt, wx_eq, wx_en, wx_ne', wx_nn, wx_ltn, wx_len, wx_nlt, wx_nle, wx_bz0, wx_bz1, if_pos, if_neg, wx_ite, Nat.reduceEqDiff, eq_self, if_true, if_false, not_true_eq_false, not_false_eq_true]
    exact ⟨1, by omega, by simp -implicitDefEqProofs (disch := omega) only [e_X1_canDo, e_X1_canDo__1, e_X1_canDo__6, hw8, wx_swk3, i3, wx_bd, wx_let, wx_st, wx_lit, wx_ga, wx_sa, pk_mul, nI_add, wx_le, wx_lt, wx_eq, wx_en, wx_ne', wx_nn, wx_ltn, wx_len, wx_nlt, wx_nle, wx_bz0, wx_bz1, if_pos, if_neg, wx_ite, Nat.reduceEqDiff, eq_self, if_true, if_false, not_true_eq_false, not_false_eq_true], by simp -implicitDefEqProofs (disch := omega) only [e_X12_canAct_61, e_X12_canAct, e_X12_canAct__1, e_X12_canAct__2, e_X12_canAct__3, e_X12_canAct__4, e_X12_canAct__1, e_X12_canAct__2, e_X12_canAct__3, e_X12_canAct__4, wx_bd, wx_let, wx_st, wx_lit, wx_ga, wx_sa, pk_mul, nI_add, wx_le, wx_lt, wx_eq, wx_en, wx_ne', wx_nn, wx_ltn, wx_len, wx_nlt, wx_nle, wx_bz0, wx_bz1, if_pos, if_neg, wx_ite, Nat.reduceEqDiff, eq_self, if_true, if_false, not_true_eq_false, not_false_eq_true], fun q => by omega⟩
set_option maxHeartbeats 1000000 in
theorem wl_do (h : wX th nw nj nc σ τ) {w k : Nat} {v : Int32} (hw : w < nw) (hd : wDo nj k v) (hwear : k = 1 → ∃ j, j < nj ∧ τ 1 (13 + j) = nI (w + 1)) : ∃ σ' τ', f_X1_doTo 279 (nI k) (nI w) v σ = some (nI 0, σ') ∧ f_X12_acts 0 (nI k) (nI w) v τ = some (nI 0, τ') ∧ wX th nw nj nc σ' τ' ∧ wFr σ σ' τ τ' := by
  obtain ⟨n1, n2, n3, n4, n5, n6⟩ := id h.1
  rcases hd with ⟨rfl, j, hj, rfl⟩ | rfl | rfl | ⟨rfl, g, g1, g2, rfl⟩
  · obtain ⟨σ', τ', a1, a2, a3, a4⟩ := wl_putOn h hw hj
    refine ⟨σ', τ', ?_, ?_, a3, a4⟩
    · rw [e_X1_doTo, show (nI 0 : Int32) = nI 0 from rfl, wx_swk0]
      simp -implicitDefEqProofs (disch := omega) only [e_X1_doTo, e_X1_doTo__1, e_X1_doTo__2, e_X1_doTo__3, e_X1_doTo__4, e_X1_doTo__5, e_X1_doTo__6, e_X1_doTo__7, e_X1_doTo__8, a1, wx_bd, wx_let, wx_st, wx_lit, wx_ga, wx_sa, pk_mul, nI_add, wx_le, wx_lt, wx_eq, wx_en, wx_ne', wx_nn, wx_ltn, wx_len, wx_nlt, wx_nle, wx_bz0, wx_bz1, if_pos, if_neg, wx_ite, Nat.reduceEqDiff, eq_self, if_true, if_false, not_true_eq_false, not_false_eq_true]
    · simp -implicitDefEqProofs (disch := omega) only [e_X12_acts_40, e_X12_acts_40__1, e_X12_acts_40__1, e_X12_acts_29, e_X12_acts_29__1, e_X12_acts_29__1, e_X12_acts_10, e_X12_acts_10__1, e_X12_acts_10__2, e_X12_acts_10__1, e_X12_acts_10__2, e_X12_acts, e_X12_acts__1, e_X12_acts__1, a2, wx_bd, wx_let, wx_st, wx_lit, wx_ga, wx_sa, pk_mul, nI_add, wx_le, wx_lt, wx_eq, wx_en, wx_ne', wx_nn, wx_ltn, wx_len, wx_nlt, wx_nle, wx_bz0, wx_bz1, if_pos, if_neg, wx_ite, Nat.reduceEqDiff, eq_self, if_true, if_false, not_true_eq_false, not_false_eq_true]
  · obtain ⟨r, s1, t1, a1, a2, a3, a4, a5, a6, a7⟩ := wl_off h hw
    rcases a4 with ⟨-, -, rfl⟩ | ⟨q, hq, rfl, q1, q2, q3⟩
    · obtain ⟨j, hj, hj2⟩ := hwear rfl
      exact absurd hj2 (a7 j hj)
    · refine ⟨s1, t1, ?_, ?_, a5, a6⟩
      · rw [e_X1_doTo, wx_swk1]
        simp -implicitDefEqProofs (disch := omega) only [e_X1_doTo, e_X1_doTo__1, e_X1_doTo__2, e_X1_doTo__3, e_X1_doTo__4, e_X1_doTo__5, e_X1_doTo__6, e_X1_doTo__7, e_X1_doTo__8, a1, wx_bd, wx_let, wx_st, wx_lit, wx_ga, wx_sa, pk_mul, nI_add, wx_le, wx_lt, wx_eq, wx_en, wx_ne', wx_nn, wx_ltn, wx_len, wx_nlt, wx_nle, wx_bz0, wx_bz1, if_pos, if_neg, wx_ite, Nat.reduceEqDiff, eq_self, if_true, if_false, not_true_eq_false, not_false_eq_true]
      · simp -implicitDefEqProofs (disch := omega) only [e_X12_acts_40, e_X12_acts_40__1, e_X12_acts_40__1, e_X12_acts_29, e_X12_acts_29__1, e_X12_acts_29__1, e_X12_acts_10, e_X12_acts_10__1, e_X12_acts_10__2, e_X12_acts_10__1, e_X12_acts_10__2, e_X12_acts, e_X12_acts__1, e_X12_acts__1, a3, ← q3, wx_bd, wx_let, wx_st, wx_lit, wx_ga, wx_sa, pk_mul, nI_add, wx_le, wx_lt, wx_eq, wx_en, wx_ne', wx_nn, wx_ltn, wx_len, wx_nlt, wx_nle, wx_bz0, wx_bz1, if_pos, if_neg, wx_ite, Nat.reduceEqDiff, eq_self, if_true, if_false, not_true_eq_false, not_false_eq_true]
  · obtain ⟨k, k8, hk, -⟩ := wb_k h.2.1 hw
    obtain ⟨σ', τ', ⟨x, s1, a1, a2⟩, a3, a4, a5⟩ := wl_comb h v hw hk k8
    refine ⟨σ', τ', ?_, ?_, a4, a5⟩
    · rw [e_X1_doTo, wx_swk2]
      simp -implicitDefEqProofs (disch := omega) only [e_X1_doTo, e_X1_doTo__1, e_X1_doTo__2, e_X1_doTo__3, e_X1_doTo__4, e_X1_doTo__5, e_X1_doTo__6, e_X1_doTo__7, e_X1_doTo__8, a1, a2, wx_bd, wx_let, wx_st, wx_lit, wx_ga, wx_sa, pk_mul, nI_add, wx_le, wx_lt, wx_eq, wx_en, wx_ne', wx_nn, wx_ltn, wx_len, wx_nlt, wx_nle, wx_bz0, wx_bz1, if_pos, if_neg, wx_ite, Nat.reduceEqDiff, eq_self, if_true, if_false, not_true_eq_false, not_false_eq_true]
    · simp -implicitDefEqProofs (disch := omega) only [e_X12_acts_40, e_X12_acts_40__1, e_X12_acts_40__1, e_X12_acts_29, e_X12_acts_29__1, e_X12_acts_29__1, e_X12_acts_10, e_X12_acts_10__1, e_X12_acts_10__2, e_X12_acts_10__1, e_X12_acts_10__2, e_X12_acts, e_X12_acts__1, e_X12_acts__1, a3, wx_bd, wx_let, wx_st, wx_lit, wx_ga, wx_sa, pk_mul, nI_add, wx_le, wx_lt, wx_eq, wx_en, wx_ne', wx_nn, wx_ltn, wx_len, wx_nlt, wx_nle, wx_bz0, wx_bz1, if_pos, if_neg, wx_ite, Nat.reduceEqDiff, eq_self, if_true, if_false, not_true_eq_false, not_false_eq_true]
  · obtain ⟨k, k8, hk, -⟩ := wb_k h.2.1 hw
    have e4 := wb_hair h.2.1 hw
    obtain ⟨u, hu⟩ : ∃ u, u = (if τ 1 (43 + w) + nI g ≤ nI 99 then τ 1 (43 + w) + nI g else nI 99) := ⟨_, rfl⟩
    obtain ⟨X1, F1⟩ := wl_setW (c := 4) (o := 43) (v := u) h hw (Or.inl ⟨rfl, rfl⟩)
    obtain ⟨σ', τ', a1, a2, a3, a4⟩ := wl_brush_l hw k8 k 0 wg_N wg_N _ _ X1 (by simp -implicitDefEqProofs (disch := omega) only [wx_uk, wx_un, pk_us, pk_un]; exact hk) (by omega) (by rw [wx_N]; omega) (by rw [wx_N]; omega)
    refine ⟨σ', τ', ?_, ?_, a3, wFr_tr F1 a4⟩
    · rw [e_X1_doTo, wx_sw_out (fun k hk e => by
        have hk : k < 3 := by simpa using hk
        have := (nI_eq (by omega) (by omega)).mp e
        omega) (by simp)]
      simp -implicitDefEqProofs (disch := omega) only [e_X1_doTo, e_X1_doTo__1, e_X1_doTo__2, e_X1_doTo__3, e_X1_doTo__4, e_X1_doTo__5, e_X1_doTo__6, e_X1_doTo__7, e_X1_doTo__8, e_X9_weigh, e4, wl_min, ← hu, a1, wx_bd, wx_let, wx_st, wx_lit, wx_ga, wx_sa, pk_mul, nI_add, wx_le, wx_lt, wx_eq, wx_en, wx_ne', wx_nn, wx_ltn, wx_len, wx_nlt, wx_nle, wx_bz0, wx_bz1, if_pos, if_neg, wx_ite, Nat.reduceEqDiff, eq_self, if_true, if_false, not_true_eq_false, not_false_eq_true]
    · simp -implicitDefEqProofs (disch := omega) only [e_X12_acts_40, e_X12_acts_40__1, e_X12_acts_40__1, e_X12_acts_29, e_X12_acts_29__1, e_X12_acts_29__1, e_X12_acts_10, e_X12_acts_10__1, e_X12_acts_10__2, e_X12_acts_10__1, e_X12_acts_10__2, e_X12_acts, e_X12_acts__1, e_X12_acts__1, e_X12_brushes, e_X12_brushes__1, e_X12_brushes__2, e_X12_brushes__3, wl_lesser, ← hu, a2, wx_bd, wx_let, wx_st, wx_lit, wx_ga, wx_sa, pk_mul, nI_add, wx_le, wx_lt, wx_eq, wx_en, wx_ne', wx_nn, wx_ltn, wx_len, wx_nlt, wx_nle, wx_bz0, wx_bz1, if_pos, if_neg, wx_ite, Nat.reduceEqDiff, eq_self, if_true, if_false, not_true_eq_false, not_false_eq_true]
set_option maxHeartbeats 1000000 in
theorem wl_canTry (h : wX th nw nj nc σ τ) {c j : Nat} (hc : c < nc) (hj : j < nj) : ∃ z, z ≤ 1 ∧ f_X1_canTry 279 (nI c) (nI j) σ = some (nI z, σ) ∧ f_X12_canTry 0 (nI c) (nI j) τ = some (nI z, τ) := by
  obtain ⟨n1, n2, n3, n4, n5, n6⟩ := id h.1
  have e6 := wb_nc h.2.1
  have hc1 : f_X0_hasCase 1 (nI c) σ = some (nI 1, σ) := by simp -implicitDefEqProofs (disch := omega) only [e_X0_hasCase, e6, wx_bd, wx_let, wx_st, wx_lit, wx_ga, wx_sa, pk_mul, nI_add, wx_le, wx_lt, wx_eq, wx_en, wx_ne', wx_nn, wx_ltn, wx_len, wx_nlt, wx_nle, wx_bz0, wx_bz1, if_pos, if_neg, wx_ite, Nat.reduceEqDiff, eq_self, if_true, if_false, not_true_eq_false, not_false_eq_true]
  have hv := wV_0 (wb_verdict h.2.1 hc)
  by_cases cv : τ 1 (267 + c) = nI 0
  · rcases wl_alive h.2.1 h.1 hj with ⟨-, c1, c2⟩ | ⟨-, c1, c2⟩
    · exact ⟨1, by omega, by simp -implicitDefEqProofs (disch := omega) only [e_X1_canTry, e_X1_canTry__1, e_X1_canTry__2, e_X1_canTry__3, hc1, hv, cv, c1, wx_bd, wx_let, wx_st, wx_lit, wx_ga, wx_sa, pk_mul, nI_add, wx_le, wx_lt, wx_eq, wx_en, wx_ne', wx_nn, wx_ltn, wx_len, wx_nlt, wx_nle, wx_bz0, wx_bz1, if_pos, if_neg, wx_ite, Nat.reduceEqDiff, eq_self, if_true, if_false, not_true_eq_false, not_false_eq_true], by simp -implicitDefEqProofs (disch := omega) only [e_X12_canTry, e_X12_canTry__1, e_X12_canTry__2, cv, c2, wx_bd, wx_let, wx_st, wx_lit, wx_ga, wx_sa, pk_mul, nI_add, wx_le, wx_lt, wx_eq, wx_en, wx_ne', wx_nn, wx_ltn, wx_len, wx_nlt, wx_nle, wx_bz0, wx_bz1, if_pos, if_neg, wx_ite, Nat.reduceEqDiff, eq_self, if_true, if_false, not_true_eq_false, not_false_eq_true]⟩
    · exact ⟨0, by omega, by simp -implicitDefEqProofs (disch := omega) only [e_X1_canTry, e_X1_canTry__1, e_X1_canTry__2, e_X1_canTry__3, hc1, hv, cv, c1, wx_bd, wx_let, wx_st, wx_lit, wx_ga, wx_sa, pk_mul, nI_add, wx_le, wx_lt, wx_eq, wx_en, wx_ne', wx_nn, wx_ltn, wx_len, wx_nlt, wx_nle, wx_bz0, wx_bz1, if_pos, if_neg, wx_ite, Nat.reduceEqDiff, eq_self, if_true, if_false, not_true_eq_false, not_false_eq_true], by simp -implicitDefEqProofs (disch := omega) only [e_X12_canTry, e_X12_canTry__1, e_X12_canTry__2, cv, c2, wx_bd, wx_let, wx_st, wx_lit, wx_ga, wx_sa, pk_mul, nI_add, wx_le, wx_lt, wx_eq, wx_en, wx_ne', wx_nn, wx_ltn, wx_len, wx_nlt, wx_nle, wx_bz0, wx_bz1, if_pos, if_neg, wx_ite, Nat.reduceEqDiff, eq_self, if_true, if_false, not_true_eq_false, not_false_eq_true]⟩
  · exact ⟨0, by omega, by simp -implicitDefEqProofs (disch := omega) only [e_X1_canTry, e_X1_canTry__1, e_X1_canTry__2, e_X1_canTry__3, hc1, hv, cv, wx_bd, wx_let, wx_st, wx_lit, wx_ga, wx_sa, pk_mul, nI_add, wx_le, wx_lt, wx_eq, wx_en, wx_ne', wx_nn, wx_ltn, wx_len, wx_nlt, wx_nle, wx_bz0, wx_bz1, if_pos, if_neg, wx_ite, Nat.reduceEqDiff, eq_self, if_true, if_false, not_true_eq_false, not_false_eq_true], by simp -implicitDefEqProofs (disch := omega) only [e_X12_canTry, e_X12_canTry__1, e_X12_canTry__2, cv, wx_bd, wx_let, wx_st, wx_lit, wx_ga, wx_sa, pk_mul, nI_add, wx_le, wx_lt, wx_eq, wx_en, wx_ne', wx_nn, wx_ltn, wx_len, wx_nlt, wx_nle, wx_bz0, wx_bz1, if_pos, if_neg, wx_ite, Nat.reduceEqDiff, eq_self, if_true, if_false, not_true_eq_false, not_false_eq_true]⟩
end YR
/-! a YEAR, loop by loop, from its end -/
section YY
variable {th : Bool} {nw nj nc : Nat}
set_option maxHeartbeats 1000000 in
theorem wl_y4 : ∀ d i n m x σ τ, wX th nw nj nc σ τ → i + d = nw → d < n → d < m → ∃ σ' τ', f_X1_passYear_218 n 279 x (nI i) σ = some (x, σ') ∧ f_X12_goesBy_246 m 0 x (nI i) τ = some (x, τ') ∧ wX th nw nj nc σ' τ' ∧ wFq σ σ' τ τ' ∧ τ' 1 0 = τ 1 0 + nI 1 := by
  intro d
  induction d with
  | zero =>
    intro i n m x σ τ h hi hn hm
    obtain ⟨n, rfl⟩ : ∃ k, n = k + 1 := ⟨n - 1, by omega⟩
    obtain ⟨m, rfl⟩ : ∃ k, m = k + 1 := ⟨m - 1, by omega⟩
    obtain ⟨n1, n2, n3, n4, n5, n6⟩ := id h.1
    have e8 := wb_nw h.2.1
    have e7 := wb_year h.2.1
    obtain ⟨X1, F1⟩ := wl_setY h (τ 1 0 + nI 1)
    refine ⟨_, _, ?_, ?_, X1, F1, by simp -implicitDefEqProofs (disch := omega) only [wx_uk, wx_un, pk_us, pk_un]⟩
    · simp -implicitDefEqProofs (disch := omega) only [e_X1_passYear_218, e_X1_passYear_218__1, e_X1_passYear_218__2, e_X1_passYear_218__3, e8, e7, wx_bd, wx_let, wx_st, wx_lit, wx_ga, wx_sa, pk_mul, nI_add, wx_le, wx_lt, wx_eq, wx_en, wx_ne', wx_nn, wx_ltn, wx_len, wx_nlt, wx_nle, wx_bz0, wx_bz1, if_pos, if_neg, wx_ite, Nat.reduceEqDiff, eq_self, if_true, if_false, not_true_eq_false, not_false_eq_true]
    · simp -implicitDefEqProofs (disch := omega) only [e_X12_goesBy_246, e_X12_goesBy_246__1, e_X12_goesBy_246__2, e_X12_goesBy_246__3, e_X12_goesBy_246__4, n4, wx_bd, wx_let, wx_st, wx_lit, wx_ga, wx_sa, pk_mul, nI_add, wx_le, wx_lt, wx_eq, wx_en, wx_ne', wx_nn, wx_ltn, wx_len, wx_nlt, wx_nle, wx_bz0, wx_bz1, if_pos, if_neg, wx_ite, Nat.reduceEqDiff, eq_self, if_true, if_false, not_true_eq_false, not_false_eq_true]
  | succ d ih =>
    intro i n m x σ τ h hi hn hm
    obtain ⟨n, rfl⟩ : ∃ k, n = k + 1 := ⟨n - 1, by omega⟩
    obtain ⟨m, rfl⟩ : ∃ k, m = k + 1 := ⟨m - 1, by omega⟩
    obtain ⟨n1, n2, n3, n4, n5, n6⟩ := id h.1
    have e8 := wb_nw h.2.1
    obtain ⟨s1, t1, a1, a2, a3, a4⟩ := wl_wearOut h (show i < nw by omega)
    obtain ⟨σ', τ', r1, r2, r3, r4, r5⟩ := ih (i + 1) n m x s1 t1 a3 (by omega) (by omega) (by omega)
    refine ⟨σ', τ', ?_, ?_, r3, wFq_tr (wFr_q a4) r4, by rw [r5, a4.2.2]⟩
    · simp -implicitDefEqProofs (disch := omega) only [e_X1_passYear_218, e_X1_passYear_218__1, e_X1_passYear_218__2, e_X1_passYear_218__3, e8, a1, wx_bd, wx_let, wx_st, wx_lit, wx_ga, wx_sa, pk_mul, nI_add, wx_le, wx_lt, wx_eq, wx_en, wx_ne', wx_nn, wx_ltn, wx_len, wx_nlt, wx_nle, wx_bz0, wx_bz1, if_pos, if_neg, wx_ite, Nat.reduceEqDiff, eq_self, if_true, if_false, not_true_eq_false, not_false_eq_true]; exact r1
    · simp -implicitDefEqProofs (disch := omega) only [e_X12_goesBy_246, e_X12_goesBy_246__1, e_X12_goesBy_246__2, e_X12_goesBy_246__3, e_X12_goesBy_246__4, n4, a2, wx_bd, wx_let, wx_st, wx_lit, wx_ga, wx_sa, pk_mul, nI_add, wx_le, wx_lt, wx_eq, wx_en, wx_ne', wx_nn, wx_ltn, wx_len, wx_nlt, wx_nle, wx_bz0, wx_bz1, if_pos, if_neg, wx_ite, Nat.reduceEqDiff, eq_self, if_true, if_false, not_true_eq_false, not_false_eq_true]; exact r2
set_option maxHeartbeats 1000000 in
theorem wl_y3 : ∀ d i n m q σ τ, wX th nw nj nc σ τ → i + d = nj → q ≤ i → d < n → d < m → ∃ x σ' τ', x ≤ 10 ∧ f_X1_passYear_167 n 279 (nI q) (nI i) σ = some (nI x, σ') ∧ f_X12_goesBy_175 m 0 (nI q) (nI i) τ = some (nI x, τ') ∧ wX th nw nj nc σ' τ' ∧ wFq σ σ' τ τ' ∧ τ' 1 0 = τ 1 0 + nI 1 := by
  intro d
  induction d with
  | zero =>
    intro i n m q σ τ h hi hq hn hm
    obtain ⟨n, rfl⟩ : ∃ k, n = k + 1 := ⟨n - 1, by omega⟩
    obtain ⟨m, rfl⟩ : ∃ k, m = k + 1 := ⟨m - 1, by omega⟩
    obtain ⟨n1, n2, n3, n4, n5, n6⟩ := id h.1
    have e5 := wb_nj h.2.1
    obtain ⟨σ', τ', r1, r2, r3, r4, r5⟩ := wl_y4 nw 0 wg_N wg_N (nI q) σ τ h (by omega) (by rw [wx_N]; omega) (by rw [wx_N]; omega)
    refine ⟨q, σ', τ', by omega, ?_, ?_, r3, r4, r5⟩
    · simp -implicitDefEqProofs (disch := omega) only [e_X1_passYear_167, e_X1_passYear_167__1, e_X1_passYear_167__2, e_X1_passYear_167__3, e_X1_passYear_167__4, e5, wx_bd, wx_let, wx_st, wx_lit, wx_ga, wx_sa, pk_mul, nI_add, wx_le, wx_lt, wx_eq, wx_en, wx_ne', wx_nn, wx_ltn, wx_len, wx_nlt, wx_nle, wx_bz0, wx_bz1, if_pos, if_neg, wx_ite, Nat.reduceEqDiff, eq_self, if_true, if_false, not_true_eq_false, not_false_eq_true]; exact r1
    · simp -implicitDefEqProofs (disch := omega) only [e_X12_goesBy_175, e_X12_goesBy_175__1, e_X12_goesBy_175__2, e_X12_goesBy_175__3, e_X12_goesBy_175__4, e_X12_goesBy_175__5, e_X12_goesBy_175__6, e_X12_goesBy_175__7, n5, wx_bd, wx_let, wx_st, wx_lit, wx_ga, wx_sa, pk_mul, nI_add, wx_le, wx_lt, wx_eq, wx_en, wx_ne', wx_nn, wx_ltn, wx_len, wx_nlt, wx_nle, wx_bz0, wx_bz1, if_pos, if_neg, wx_ite, Nat.reduceEqDiff, eq_self, if_true, if_false, not_true_eq_false, not_false_eq_true]; exact r2
  | succ d ih =>
    intro i n m q σ τ h hi hq hn hm
    obtain ⟨n, rfl⟩ : ∃ k, n = k + 1 := ⟨n - 1, by omega⟩
    obtain ⟨m, rfl⟩ : ∃ k, m = k + 1 := ⟨m - 1, by omega⟩
    obtain ⟨n1, n2, n3, n4, n5, n6⟩ := id h.1
    have e5 := wb_nj h.2.1
    have hij : i < nj := by omega
    rcases wl_alive h.2.1 h.1 hij with ⟨-, c1, c2⟩ | ⟨-, c1, c2⟩
    · obtain ⟨z, v, s1, t1, z1, g1, g2, g3, g4, g5⟩ := wl_grow h hij
      rcases (show z = 0 ∨ z = 1 by omega) with rfl | rfl
      · obtain ⟨x, σ', τ', x0, r1, r2, r3, r4, r5⟩ := ih (i + 1) n m q s1 t1 g4 (by omega) (by omega) (by omega) (by omega)
        refine ⟨x, σ', τ', x0, ?_, ?_, r3, wFq_tr (wFr_q g5) r4, by rw [r5, g5.2.2]⟩
        · simp -implicitDefEqProofs (disch := omega) only [e_X1_passYear_167, e_X1_passYear_167__1, e_X1_passYear_167__2, e_X1_passYear_167__3, e_X1_passYear_167__4, e_X1_passYear_209, e_X1_passYear_209__1, e5, c1, g1, wx_bd, wx_let, wx_st, wx_lit, wx_ga, wx_sa, pk_mul, nI_add, wx_le, wx_lt, wx_eq, wx_en, wx_ne', wx_nn, wx_ltn, wx_len, wx_nlt, wx_nle, wx_bz0, wx_bz1, if_pos, if_neg, wx_ite, Nat.reduceEqDiff, eq_self, if_true, if_false, not_true_eq_false, not_false_eq_true]; exact r1
        · simp -implicitDefEqProofs (disch := omega) only [e_X12_goesBy_175, e_X12_goesBy_175__1, e_X12_goesBy_175__2, e_X12_goesBy_175__3, e_X12_goesBy_175__4, e_X12_goesBy_175__5, e_X12_goesBy_175__6, e_X12_goesBy_175__7, e_X12_goesBy_238, e_X12_goesBy_238__1, n5, c2, g2, g3, wx_bd, wx_let, wx_st, wx_lit, wx_ga, wx_sa, pk_mul, nI_add, wx_le, wx_lt, wx_eq, wx_en, wx_ne', wx_nn, wx_ltn, wx_len, wx_nlt, wx_nle, wx_bz0, wx_bz1, if_pos, if_neg, wx_ite, Nat.reduceEqDiff, eq_self, if_true, if_false, not_true_eq_false, not_false_eq_true]; exact r2
      · obtain ⟨s2, t2, p1, p2, p3, p4⟩ := wl_passOn g4 hij
        obtain ⟨x, σ', τ', x0, r1, r2, r3, r4, r5⟩ := ih (i + 1) n m (q + 1) s2 t2 p3 (by omega) (by omega) (by omega) (by omega)
        refine ⟨x, σ', τ', x0, ?_, ?_, r3, wFq_tr (wFr_q g5) (wFq_tr (wFr_q p4) r4), by rw [r5, p4.2.2, g5.2.2]⟩
        · simp -implicitDefEqProofs (disch := omega) only [e_X1_passYear_167, e_X1_passYear_167__1, e_X1_passYear_167__2, e_X1_passYear_167__3, e_X1_passYear_167__4, e_X1_passYear_209, e_X1_passYear_209__1, e5, c1, g1, p1, wx_bd, wx_let, wx_st, wx_lit, wx_ga, wx_sa, pk_mul, nI_add, wx_le, wx_lt, wx_eq, wx_en, wx_ne', wx_nn, wx_ltn, wx_len, wx_nlt, wx_nle, wx_bz0, wx_bz1, if_pos, if_neg, wx_ite, Nat.reduceEqDiff, eq_self, if_true, if_false, not_true_eq_false, not_false_eq_true]; exact r1
        · simp -implicitDefEqProofs (disch := omega) only [e_X12_goesBy_175, e_X12_goesBy_175__1, e_X12_goesBy_175__2, e_X12_goesBy_175__3, e_X12_goesBy_175__4, e_X12_goesBy_175__5, e_X12_goesBy_175__6, e_X12_goesBy_175__7, e_X12_goesBy_238, e_X12_goesBy_238__1, n5, c2, g2, g3, p2, wx_bd, wx_let, wx_st, wx_lit, wx_ga, wx_sa, pk_mul, nI_add, wx_le, wx_lt, wx_eq, wx_en, wx_ne', wx_nn, wx_ltn, wx_len, wx_nlt, wx_nle, wx_bz0, wx_bz1, if_pos, if_neg, wx_ite, Nat.reduceEqDiff, eq_self, if_true, if_false, not_true_eq_false, not_false_eq_true]; exact r2
    · obtain ⟨x, σ', τ', x0, r1, r2, r3, r4, r5⟩ := ih (i + 1) n m q σ τ h (by omega) (by omega) (by omega) (by omega)
      refine ⟨x, σ', τ', x0, ?_, ?_, r3, r4, r5⟩
      · simp -implicitDefEqProofs (disch := omega) only [e_X1_passYear_167, e_X1_passYear_167__1, e_X1_passYear_167__2, e_X1_passYear_167__3, e_X1_passYear_167__4, e_X1_passYear_209, e_X1_passYear_209__1, e5, c1, wx_bd, wx_let, wx_st, wx_lit, wx_ga, wx_sa, pk_mul, nI_add, wx_le, wx_lt, wx_eq, wx_en, wx_ne', wx_nn, wx_ltn, wx_len, wx_nlt, wx_nle, wx_bz0, wx_bz1, if_pos, if_neg, wx_ite, Nat.reduceEqDiff, eq_self, if_true, if_false, not_true_eq_false, not_false_eq_true]; exact r1
      · simp -implicitDefEqProofs (disch := omega) only [e_X12_goesBy_175, e_X12_goesBy_175__1, e_X12_goesBy_175__2, e_X12_goesBy_175__3, e_X12_goesBy_175__4, e_X12_goesBy_175__5, e_X12_goesBy_175__6, e_X12_goesBy_175__7, e_X12_goesBy_238, e_X12_goesBy_238__1, n5, c2, wx_bd, wx_let, wx_st, wx_lit, wx_ga, wx_sa, pk_mul, nI_add, wx_le, wx_lt, wx_eq, wx_en, wx_ne', wx_nn, wx_ltn, wx_len, wx_nlt, wx_nle, wx_bz0, wx_bz1, if_pos, if_neg, wx_ite, Nat.reduceEqDiff, eq_self, if_true, if_false, not_true_eq_false, not_false_eq_true]; exact r2
set_option maxHeartbeats 1000000 in
theorem wl_y2 {N : Nat} (hN16 : N ≤ 16) : ∀ d i n m σ τ, wX th nw nj nc σ τ → σ 34 4 = nI N → i + d = N → d < n → d < m → ∃ x σ' τ', x ≤ 10 ∧ f_X1_passYear_97 n 279 34 (nI i) σ = some (nI x, σ') ∧ f_X12_goesBy_95 m 0 (nI (3 * i)) τ = some (nI x, τ') ∧ wX th nw nj nc σ' τ' ∧ wFq σ σ' τ τ' ∧ τ' 1 0 = τ 1 0 + nI 1 := by
  intro d
  induction d with
  | zero =>
    intro i n m σ τ h hN hi hn hm
    obtain ⟨n, rfl⟩ : ∃ k, n = k + 1 := ⟨n - 1, by omega⟩
    obtain ⟨m, rfl⟩ : ∃ k, m = k + 1 := ⟨m - 1, by omega⟩
    obtain ⟨n1, n2, n3, n4, n5, n6⟩ := id h.1
    obtain ⟨N', d1, d2, d3, d4⟩ := h.2.2.2.1.2.1
    have d2 : σ 34 4 = nI N' := d2
    have : N = N' := (nI_eq (by omega) (by omega)).mp (hN.symm.trans d2)
    subst this
    obtain ⟨x, σ', τ', x0, r1, r2, r3, r4, r5⟩ := wl_y3 nj 0 wg_N wg_N 0 σ τ h (by omega) (by omega) (by rw [wx_N]; omega) (by rw [wx_N]; omega)
    refine ⟨x, σ', τ', x0, ?_, ?_, r3, r4, r5⟩
    · simp -implicitDefEqProofs (disch := omega) only [e_X1_passYear_97, e_X1_passYear_97__1, e_X1_passYear_97__2, e_X1_passYear_97__3, e_X1_passYear_97__4, e_X1_passYear_97__5, e_X1_passYear_97__6, e_X1_passYear_97__7, hN, wx_bd, wx_let, wx_st, wx_lit, wx_ga, wx_sa, pk_mul, nI_add, wx_le, wx_lt, wx_eq, wx_en, wx_ne', wx_nn, wx_ltn, wx_len, wx_nlt, wx_nle, wx_bz0, wx_bz1, if_pos, if_neg, wx_ite, Nat.reduceEqDiff, eq_self, if_true, if_false, not_true_eq_false, not_false_eq_true]; exact r1
    · simp -implicitDefEqProofs (disch := omega) only [e_X12_goesBy_95, e_X12_goesBy_95__1, e_X12_goesBy_95__2, e_X12_goesBy_95__3, e_X12_goesBy_95__4, e_X12_goesBy_95__5, e_X12_goesBy_95__6, e_X12_goesBy_95__7, e_X12_goesBy_95__8, d3, wx_bd, wx_let, wx_st, wx_lit, wx_ga, wx_sa, pk_mul, nI_add, wx_le, wx_lt, wx_eq, wx_en, wx_ne', wx_nn, wx_ltn, wx_len, wx_nlt, wx_nle, wx_bz0, wx_bz1, if_pos, if_neg, wx_ite, Nat.reduceEqDiff, eq_self, if_true, if_false, not_true_eq_false, not_false_eq_true]; exact r2
  | succ d ih =>
    intro i n m σ τ h hN hi hn hm
    obtain ⟨n, rfl⟩ : ∃ k, n = k + 1 := ⟨n - 1, by omega⟩
    obtain ⟨m, rfl⟩ : ∃ k, m = k + 1 := ⟨m - 1, by omega⟩
    obtain ⟨n1, n2, n3, n4, n5, n6⟩ := id h.1
    obtain ⟨N', d1, d2, d3, d4⟩ := h.2.2.2.1.2.1
    have d2 : σ 34 4 = nI N' := d2
    have : N = N' := (nI_eq (by omega) (by omega)).mp (hN.symm.trans d2)
    subst this
    obtain ⟨l1, l2, l3, ⟨c, hc, l4⟩, j, hj, l5⟩ := d4 i (by omega)
    have l1 : σ 35 i = τ 19 (3 * i) := l1
    have l2 : σ 37 i = nI c := l2.trans l4
    have l3 : σ 38 i = nI j := l3.trans l5
    have e7 := wb_year h.2.1
    have e3 : nI (3 * i) + nI 3 = nI (3 * (i + 1)) := nI_add _ _
    by_cases cy : τ 19 (3 * i) = τ 1 0
    · obtain ⟨z, z1, g1, g2⟩ := wl_canTry h hc hj
      rcases (show z = 0 ∨ z = 1 by omega) with rfl | rfl
      · obtain ⟨x, σ', τ', x0, r1, r2, r3, r4, r5⟩ := ih (i + 1) n m σ τ h hN (by omega) (by omega) (by omega)
        refine ⟨x, σ', τ', x0, ?_, ?_, r3, r4, r5⟩
        · simp -implicitDefEqProofs (disch := omega) only [e_X1_passYear_97, e_X1_passYear_97__1, e_X1_passYear_97__2, e_X1_passYear_97__3, e_X1_passYear_97__4, e_X1_passYear_97__5, e_X1_passYear_97__6, e_X1_passYear_97__7, e_X1_passYear_156, e_X1_passYear_156__1, sc_r34_0, sc_r34_2, sc_r34_3, sc_n35, sc_n37, sc_n38, hN, l1, l2, l3, e7, cy, g1, wx_bd, wx_let, wx_st, wx_lit, wx_ga, wx_sa, pk_mul, nI_add, wx_le, wx_lt, wx_eq, wx_en, wx_ne', wx_nn, wx_ltn, wx_len, wx_nlt, wx_nle, wx_bz0, wx_bz1, if_pos, if_neg, wx_ite, Nat.reduceEqDiff, eq_self, if_true, if_false, not_true_eq_false, not_false_eq_true]; exact r1
        · simp -implicitDefEqProofs (disch := omega) only [e_X12_goesBy_95, e_X12_goesBy_95__1, e_X12_goesBy_95__2, e_X12_goesBy_95__3, e_X12_goesBy_95__4, e_X12_goesBy_95__5, e_X12_goesBy_95__6, e_X12_goesBy_95__7, e_X12_goesBy_95__8, e_X12_goesBy_164, e_X12_goesBy_164__1, d3, cy, l4, l5, g2, e3, wx_bd, wx_let, wx_st, wx_lit, wx_ga, wx_sa, pk_mul, nI_add, wx_le, wx_lt, wx_eq, wx_en, wx_ne', wx_nn, wx_ltn, wx_len, wx_nlt, wx_nle, wx_bz0, wx_bz1, if_pos, if_neg, wx_ite, Nat.reduceEqDiff, eq_self, if_true, if_false, not_true_eq_false, not_false_eq_true]; exact r2
      · obtain ⟨v, s1, t1, p1, p2, -, p3, p4⟩ := wl_try h hc hj
        obtain ⟨x, σ', τ', x0, r1, r2, r3, r4, r5⟩ := ih (i + 1) n m s1 t1 p3 (by rw [p4.1 34 (by omega) (by omega) (by omega)]; exact hN) (by omega) (by omega) (by omega)
        refine ⟨x, σ', τ', x0, ?_, ?_, r3, wFq_tr (wFr_q p4) r4, by rw [r5, p4.2.2]⟩
        · simp -implicitDefEqProofs (disch := omega) only [e_X1_passYear_97, e_X1_passYear_97__1, e_X1_passYear_97__2, e_X1_passYear_97__3, e_X1_passYear_97__4, e_X1_passYear_97__5, e_X1_passYear_97__6, e_X1_passYear_97__7, e_X1_passYear_156, e_X1_passYear_156__1, sc_r34_0, sc_r34_2, sc_r34_3, sc_n35, sc_n37, sc_n38, hN, l1, l2, l3, e7, cy, g1, p1, wx_bd, wx_let, wx_st, wx_lit, wx_ga, wx_sa, pk_mul, nI_add, wx_le, wx_lt, wx_eq, wx_en, wx_ne', wx_nn, wx_ltn, wx_len, wx_nlt, wx_nle, wx_bz0, wx_bz1, if_pos, if_neg, wx_ite, Nat.reduceEqDiff, eq_self, if_true, if_false, not_true_eq_false, not_false_eq_true]; exact r1
        · simp -implicitDefEqProofs (disch := omega) only [e_X12_goesBy_95, e_X12_goesBy_95__1, e_X12_goesBy_95__2, e_X12_goesBy_95__3, e_X12_goesBy_95__4, e_X12_goesBy_95__5, e_X12_goesBy_95__6, e_X12_goesBy_95__7, e_X12_goesBy_95__8, e_X12_goesBy_164, e_X12_goesBy_164__1, d3, cy, l4, l5, g2, p2, e3, wx_bd, wx_let, wx_st, wx_lit, wx_ga, wx_sa, pk_mul, nI_add, wx_le, wx_lt, wx_eq, wx_en, wx_ne', wx_nn, wx_ltn, wx_len, wx_nlt, wx_nle, wx_bz0, wx_bz1, if_pos, if_neg, wx_ite, Nat.reduceEqDiff, eq_self, if_true, if_false, not_true_eq_false, not_false_eq_true]; exact r2
    · obtain ⟨x, σ', τ', x0, r1, r2, r3, r4, r5⟩ := ih (i + 1) n m σ τ h hN (by omega) (by omega) (by omega)
      refine ⟨x, σ', τ', x0, ?_, ?_, r3, r4, r5⟩
      · simp -implicitDefEqProofs (disch := omega) only [e_X1_passYear_97, e_X1_passYear_97__1, e_X1_passYear_97__2, e_X1_passYear_97__3, e_X1_passYear_97__4, e_X1_passYear_97__5, e_X1_passYear_97__6, e_X1_passYear_97__7, e_X1_passYear_156, e_X1_passYear_156__1, sc_r34_0, sc_n35, hN, l1, e7, cy, wx_bd, wx_let, wx_st, wx_lit, wx_ga, wx_sa, pk_mul, nI_add, wx_le, wx_lt, wx_eq, wx_en, wx_ne', wx_nn, wx_ltn, wx_len, wx_nlt, wx_nle, wx_bz0, wx_bz1, if_pos, if_neg, wx_ite, Nat.reduceEqDiff, eq_self, if_true, if_false, not_true_eq_false, not_false_eq_true]; exact r1
      · simp -implicitDefEqProofs (disch := omega) only [e_X12_goesBy_95, e_X12_goesBy_95__1, e_X12_goesBy_95__2, e_X12_goesBy_95__3, e_X12_goesBy_95__4, e_X12_goesBy_95__5, e_X12_goesBy_95__6, e_X12_goesBy_95__7, e_X12_goesBy_95__8, e_X12_goesBy_164, e_X12_goesBy_164__1, d3, cy, e3, wx_bd, wx_let, wx_st, wx_lit, wx_ga, wx_sa, pk_mul, nI_add, wx_le, wx_lt, wx_eq, wx_en, wx_ne', wx_nn, wx_ltn, wx_len, wx_nlt, wx_nle, wx_bz0, wx_bz1, if_pos, if_neg, wx_ite, Nat.reduceEqDiff, eq_self, if_true, if_false, not_true_eq_false, not_false_eq_true]; exact r2
set_option maxHeartbeats 1000000 in
theorem wl_y1 {N : Nat} (hN16 : N ≤ 16) : ∀ d i n m σ τ, wX th nw nj nc σ τ → σ 39 4 = nI N → i + d = N → d < n → d < m → ∃ x σ' τ', x ≤ 10 ∧ f_X1_passYear_10 n 279 39 (nI i) σ = some (nI x, σ') ∧ f_X12_goesBy_2 m 0 (nI (4 * i)) τ = some (nI x, τ') ∧ wX th nw nj nc σ' τ' ∧ wFq σ σ' τ τ' ∧ τ' 1 0 = τ 1 0 + nI 1 := by
  intro d
  induction d with
  | zero =>
    intro i n m σ τ h hN hi hn hm
    obtain ⟨n, rfl⟩ : ∃ k, n = k + 1 := ⟨n - 1, by omega⟩
    obtain ⟨m, rfl⟩ : ∃ k, m = k + 1 := ⟨m - 1, by omega⟩
    obtain ⟨n1, n2, n3, n4, n5, n6⟩ := id h.1
    obtain ⟨N', d1, d2, d3, d4⟩ := h.2.2.2.1.2.2.1
    have d2 : σ 39 4 = nI N' := d2
    have : N = N' := (nI_eq (by omega) (by omega)).mp (hN.symm.trans d2)
    subst this
    obtain ⟨D, f1, f2, f3, -⟩ := h.2.2.2.1.2.1
    obtain ⟨x, σ', τ', x0, r1, r2, r3, r4, r5⟩ := wl_y2 f1 D 0 wg_N wg_N σ τ h f2 (by omega) (by rw [wx_N]; omega) (by rw [wx_N]; omega)
    refine ⟨x, σ', τ', x0, ?_, ?_, r3, r4, r5⟩
    · simp -implicitDefEqProofs (disch := omega) only [e_X1_passYear_10, e_X1_passYear_10__1, e_X1_passYear_10__2, e_X1_passYear_10__3, e_X1_passYear_10__4, e_X1_passYear_10__5, e_X1_passYear_10__6, e_X1_passYear_10__7, e_X1_passYear_10__8, e_X1_passYear_10__9, hN, wx_bd, wx_let, wx_st, wx_lit, wx_ga, wx_sa, pk_mul, nI_add, wx_le, wx_lt, wx_eq, wx_en, wx_ne', wx_nn, wx_ltn, wx_len, wx_nlt, wx_nle, wx_bz0, wx_bz1, if_pos, if_neg, wx_ite, Nat.reduceEqDiff, eq_self, if_true, if_false, not_true_eq_false, not_false_eq_true]; exact r1
    · simp -implicitDefEqProofs (disch := omega) only [e_X12_goesBy_2, e_X12_goesBy_2__1, e_X12_goesBy_2__2, e_X12_goesBy_2__3, e_X12_goesBy_2__4, e_X12_goesBy_2__5, e_X12_goesBy_2__6, e_X12_goesBy_2__7, e_X12_goesBy_2__8, e_X12_goesBy_2__9, e_X12_goesBy_2__10, d3, wx_bd, wx_let, wx_st, wx_lit, wx_ga, wx_sa, pk_mul, nI_add, wx_le, wx_lt, wx_eq, wx_en, wx_ne', wx_nn, wx_ltn, wx_len, wx_nlt, wx_nle, wx_bz0, wx_bz1, if_pos, if_neg, wx_ite, Nat.reduceEqDiff, eq_self, if_true, if_false, not_true_eq_false, not_false_eq_true]; exact r2
  | succ d ih =>
    intro i n m σ τ h hN hi hn hm
    obtain ⟨n, rfl⟩ : ∃ k, n = k + 1 := ⟨n - 1, by omega⟩
    obtain ⟨m, rfl⟩ : ∃ k, m = k + 1 := ⟨m - 1, by omega⟩
    obtain ⟨n1, n2, n3, n4, n5, n6⟩ := id h.1
    obtain ⟨N', d1, d2, d3, d4⟩ := h.2.2.2.1.2.2.1
    have d2 : σ 39 4 = nI N' := d2
    have : N = N' := (nI_eq (by omega) (by omega)).mp (hN.symm.trans d2)
    subst this
    obtain ⟨l1, l2, l3, l4, ⟨w, hw, l5⟩, l6⟩ := d4 i (by omega)
    have hk : ∃ k, k < 4 ∧ τ 20 (4 * i + 1) = nI k ∧ wDo nj k (τ 20 (4 * i + 3)) := by
      rcases l6 with ⟨q, q2⟩ | q | ⟨q, -⟩ | ⟨q, q2⟩
      · exact ⟨0, by omega, q, Or.inl ⟨rfl, q2⟩⟩
      · exact ⟨1, by omega, q, Or.inr (Or.inl rfl)⟩
      · exact ⟨2, by omega, q, Or.inr (Or.inr (Or.inl rfl))⟩
      · exact ⟨3, by omega, q, Or.inr (Or.inr (Or.inr ⟨rfl, q2⟩))⟩
    obtain ⟨k, k4, hk, hdo⟩ := hk
    have l1 : σ 40 i = τ 20 (4 * i) := l1
    have l2 : σ 41 i = nI k := l2.trans hk
    have l3 : σ 42 i = nI w := l3.trans l5
    have l4 : σ 43 i = τ 20 (4 * i + 3) := l4
    have e7 := wb_year h.2.1
    have e3 : nI (4 * i) + nI 4 = nI (4 * (i + 1)) := nI_add _ _
    by_cases cy : τ 20 (4 * i) = τ 1 0
    · obtain ⟨z, z1, g1, g2, g3⟩ := wl_can h hw hdo
      rcases (show z = 0 ∨ z = 1 by omega) with rfl | rfl
      · obtain ⟨x, σ', τ', x0, r1, r2, r3, r4, r5⟩ := ih (i + 1) n m σ τ h hN (by omega) (by omega) (by omega)
        refine ⟨x, σ', τ', x0, ?_, ?_, r3, r4, r5⟩
        · simp -implicitDefEqProofs (disch := omega) only [e_X1_passYear_10, e_X1_passYear_10__1, e_X1_passYear_10__2, e_X1_passYear_10__3, e_X1_passYear_10__4, e_X1_passYear_10__5, e_X1_passYear_10__6, e_X1_passYear_10__7, e_X1_passYear_10__8, e_X1_passYear_10__9, e_X1_passYear_81, e_X1_passYear_81__1, sc_r39_0, sc_r39_1, sc_r39_2, sc_r39_3, sc_n40, sc_n41, sc_n42, sc_n43, hN, l1, l2, l3, l4, e7, cy, g1, wx_bd, wx_let, wx_st, wx_lit, wx_ga, wx_sa, pk_mul, nI_add, wx_le, wx_lt, wx_eq, wx_en, wx_ne', wx_nn, wx_ltn, wx_len, wx_nlt, wx_nle, wx_bz0, wx_bz1, if_pos, if_neg, wx_ite, Nat.reduceEqDiff, eq_self, if_true, if_false, not_true_eq_false, not_false_eq_true]; exact r1
        · simp -implicitDefEqProofs (disch := omega) only [e_X12_goesBy_2, e_X12_goesBy_2__1, e_X12_goesBy_2__2, e_X12_goesBy_2__3, e_X12_goesBy_2__4, e_X12_goesBy_2__5, e_X12_goesBy_2__6, e_X12_goesBy_2__7, e_X12_goesBy_2__8, e_X12_goesBy_2__9, e_X12_goesBy_2__10, e_X12_goesBy_86, e_X12_goesBy_86__1, d3, cy, hk, l5, g2, e3, wx_bd, wx_let, wx_st, wx_lit, wx_ga, wx_sa, pk_mul, nI_add, wx_le, wx_lt, wx_eq, wx_en, wx_ne', wx_nn, wx_ltn, wx_len, wx_nlt, wx_nle, wx_bz0, wx_bz1, if_pos, if_neg, wx_ite, Nat.reduceEqDiff, eq_self, if_true, if_false, not_true_eq_false, not_false_eq_true]; exact r2
      · obtain ⟨s1, t1, p1, p2, p3, p4⟩ := wl_do h hw hdo (fun q => g3 q rfl)
        obtain ⟨x, σ', τ', x0, r1, r2, r3, r4, r5⟩ := ih (i + 1) n m s1 t1 p3 (by rw [p4.1 39 (by omega) (by omega) (by omega)]; exact hN) (by omega) (by omega) (by omega)
        refine ⟨x, σ', τ', x0, ?_, ?_, r3, wFq_tr (wFr_q p4) r4, by rw [r5, p4.2.2]⟩
        · simp -implicitDefEqProofs (disch := omega) only [e_X1_passYear_10, e_X1_passYear_10__1, e_X1_passYear_10__2, e_X1_passYear_10__3, e_X1_passYear_10__4, e_X1_passYear_10__5, e_X1_passYear_10__6, e_X1_passYear_10__7, e_X1_passYear_10__8, e_X1_passYear_10__9, e_X1_passYear_81, e_X1_passYear_81__1, sc_r39_0, sc_r39_1, sc_r39_2, sc_r39_3, sc_n40, sc_n41, sc_n42, sc_n43, hN, l1, l2, l3, l4, e7, cy, g1, p1, wx_bd, wx_let, wx_st, wx_lit, wx_ga, wx_sa, pk_mul, nI_add, wx_le, wx_lt, wx_eq, wx_en, wx_ne', wx_nn, wx_ltn, wx_len, wx_nlt, wx_nle, wx_bz0, wx_bz1, if_pos, if_neg, wx_ite, Nat.reduceEqDiff, eq_self, if_true, if_false, not_true_eq_false, not_false_eq_true]; exact r1
        · simp -implicitDefEqProofs (disch := omega) only [e_X12_goesBy_2, e_X12_goesBy_2__1, e_X12_goesBy_2__2, e_X12_goesBy_2__3, e_X12_goesBy_2__4, e_X12_goesBy_2__5, e_X12_goesBy_2__6, e_X12_goesBy_2__7, e_X12_goesBy_2__8, e_X12_goesBy_2__9, e_X12_goesBy_2__10, e_X12_goesBy_86, e_X12_goesBy_86__1, d3, cy, hk, l5, g2, p2, e3, wx_bd, wx_let, wx_st, wx_lit, wx_ga, wx_sa, pk_mul, nI_add, wx_le, wx_lt, wx_eq, wx_en, wx_ne', wx_nn, wx_ltn, wx_len, wx_nlt, wx_nle, wx_bz0, wx_bz1, if_pos, if_neg, wx_ite, Nat.reduceEqDiff, eq_self, if_true, if_false, not_true_eq_false, not_false_eq_true]; exact r2
    · obtain ⟨x, σ', τ', x0, r1, r2, r3, r4, r5⟩ := ih (i + 1) n m σ τ h hN (by omega) (by omega) (by omega)
      refine ⟨x, σ', τ', x0, ?_, ?_, r3, r4, r5⟩
      · simp -implicitDefEqProofs (disch := omega) only [e_X1_passYear_10, e_X1_passYear_10__1, e_X1_passYear_10__2, e_X1_passYear_10__3, e_X1_passYear_10__4, e_X1_passYear_10__5, e_X1_passYear_10__6, e_X1_passYear_10__7, e_X1_passYear_10__8, e_X1_passYear_10__9, e_X1_passYear_81, e_X1_passYear_81__1, sc_r39_0, sc_n40, hN, l1, e7, cy, wx_bd, wx_let, wx_st, wx_lit, wx_ga, wx_sa, pk_mul, nI_add, wx_le, wx_lt, wx_eq, wx_en, wx_ne', wx_nn, wx_ltn, wx_len, wx_nlt, wx_nle, wx_bz0, wx_bz1, if_pos, if_neg, wx_ite, Nat.reduceEqDiff, eq_self, if_true, if_false, not_true_eq_false, not_false_eq_true]; exact r1
      · simp -implicitDefEqProofs (disch := omega) only [e_X12_goesBy_2, e_X12_goesBy_2__1, e_X12_goesBy_2__2, e_X12_goesBy_2__3, e_X12_goesBy_2__4, e_X12_goesBy_2__5, e_X12_goesBy_2__6, e_X12_goesBy_2__7, e_X12_goesBy_2__8, e_X12_goesBy_2__9, e_X12_goesBy_2__10, e_X12_goesBy_86, e_X12_goesBy_86__1, d3, cy, e3, wx_bd, wx_let, wx_st, wx_lit, wx_ga, wx_sa, pk_mul, nI_add, wx_le, wx_lt, wx_eq, wx_en, wx_ne', wx_nn, wx_ltn, wx_len, wx_nlt, wx_nle, wx_bz0, wx_bz1, if_pos, if_neg, wx_ite, Nat.reduceEqDiff, eq_self, if_true, if_false, not_true_eq_false, not_false_eq_true]; exact r2
set_option maxHeartbeats 1000000 in
theorem wl_year {σ τ : wg_M} (h : wX th nw nj nc σ τ) : ∃ x σ' τ', x ≤ 10 ∧ f_X1_passYear 279 σ = some (nI x, σ') ∧ f_X12_goesBy 0 τ = some (nI x, τ') ∧ wX th nw nj nc σ' τ' ∧ wFq σ σ' τ τ' ∧ τ' 1 0 = τ 1 0 + nI 1 := by
  obtain ⟨D, f1, f2, f3, -⟩ := h.2.2.2.1.2.2.1
  obtain ⟨x, σ', τ', x0, r1, r2, r3, r4, r5⟩ := wl_y1 f1 D 0 wg_N wg_N σ τ h f2 (by omega) (by rw [wx_N]; omega) (by rw [wx_N]; omega)
  exact ⟨x, σ', τ', x0, r1, r2, r3, r4, r5⟩
end YY

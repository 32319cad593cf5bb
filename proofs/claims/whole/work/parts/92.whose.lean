section WK
variable {nw nj nc : Nat} {σ τ : wg_M}
set_option maxHeartbeats 1000000 in
theorem wl_knowers (h : wB nw nj nc σ 1 (τ 1) τ) (hN : wN nw nj nc τ) (x cs : Int32) (k52 : Nat → Int32 → Int32 → Int32 → Int32 → Int32 → wg_M → Option (Int32 × wg_M)) (C b v : Int32) : ∀ d i n m q, i + d = nw → d < n → d < m → q ≤ i → ∃ r, r ≤ nw ∧ f_X7_knowers_5 n 280 x cs (nI q) (nI i) σ = some (nI r, σ) ∧ f_X12_whose_65 k52 m 0 x C b v cs (nI q) (nI i) τ = f_X12_whose_65 k52 1 0 x C b v cs (nI r) (nI nw) τ := by
  obtain ⟨n1, n2, n3, n4, n5, n6⟩ := id hN
  intro d
  induction d with
  | zero =>
    intro i n m q hi hn hm hq
    obtain ⟨n, rfl⟩ : ∃ k, n = k + 1 := ⟨n - 1, by omega⟩
    obtain ⟨m, rfl⟩ : ∃ k, m = k + 1 := ⟨m - 1, by omega⟩
    obtain rfl : i = nw := by omega
    refine ⟨q, hq, ?_, ?_⟩
    · simp -implicitDefEqProofs (disch := omega) only [e_X7_knowers_5, e_X7_knowers_5__1, e_X7_knowers_5__2, wb_nw h, wx_bd, wx_let, wx_st, wx_lit, wx_ga, wx_sa, pk_mul, nI_add, wx_le, wx_lt, wx_eq, wx_en, wx_ne', wx_nn, wx_ltn, wx_len, wx_nlt, wx_nle, wx_bz0, wx_bz1, if_pos, if_neg, wx_ite, Nat.reduceEqDiff, eq_self, if_true, if_false, not_true_eq_false, not_false_eq_true]
    · rw [show (1 : Nat) = 0 + 1 from rfl]
      simp -implicitDefEqProofs (disch := omega) only [e_X12_whose_65, n4, wx_bd, wx_let, wx_st, wx_lit, wx_ga, wx_sa, pk_mul, nI_add, wx_le, wx_lt, wx_eq, wx_en, wx_ne', wx_nn, wx_ltn, wx_len, wx_nlt, wx_nle, wx_bz0, wx_bz1, if_pos, if_neg, wx_ite, Nat.reduceEqDiff, eq_self, if_true, if_false, not_true_eq_false, not_false_eq_true]
  | succ d ih =>
    intro i n m q hi hn hm hq
    obtain ⟨n, rfl⟩ : ∃ k, n = k + 1 := ⟨n - 1, by omega⟩
    obtain ⟨m, rfl⟩ : ∃ k, m = k + 1 := ⟨m - 1, by omega⟩
    have hw : i < nw := by omega
    by_cases c : (x >>> (nI i &&& nI 31)) &&& nI 1 = nI 1
    · obtain ⟨k, k8, hk, -⟩ := wb_k h hw
      have r1 := wl_knows h hN hw hk k8 cs
      have r2 := wl_rulesFor hN hw hk k8 cs
      have hz := wh_n_le (fun i_1 => decide (τ 1 (75 + 24 * i + 3 * i_1) = cs)) k
      generalize wh_n (fun i_1 => decide (τ 1 (75 + 24 * i + 3 * i_1) = cs)) k = z at r1 r2 hz
      by_cases cz : z = 0
      · subst cz
        simp only [if_true] at r1
        obtain ⟨r, a1, a2, a3⟩ := ih (i + 1) n m q (by omega) (by omega) (by omega) (by omega)
        refine ⟨r, a1, ?_, ?_⟩
        · simp -implicitDefEqProofs (disch := omega) only [e_X7_knowers_5, e_X7_knowers_5__1, e_X7_knowers_5__2, e_X7_knowers_55, e_X7_knowers_55__1, wb_nw h, c, r1, wx_bd, wx_let, wx_st, wx_lit, wx_ga, wx_sa, pk_mul, nI_add, wx_le, wx_lt, wx_eq, wx_en, wx_ne', wx_nn, wx_ltn, wx_len, wx_nlt, wx_nle, wx_bz0, wx_bz1, if_pos, if_neg, wx_ite, Nat.reduceEqDiff, eq_self, if_true, if_false, not_true_eq_false, not_false_eq_true]
          exact a2
        · rw [← a3]
          simp -implicitDefEqProofs (disch := omega) only [e_X12_whose_65, e_X12_whose_65__1, e_X12_whose_65__2, e_X12_whose_65__3, e_X12_whose_65__4, e_X12_whose_101, e_X12_whose_101__1, e_X12_has, n4, c, r2, wx_bd, wx_let, wx_st, wx_lit, wx_ga, wx_sa, pk_mul, nI_add, wx_le, wx_lt, wx_eq, wx_en, wx_ne', wx_nn, wx_ltn, wx_len, wx_nlt, wx_nle, wx_bz0, wx_bz1, if_pos, if_neg, wx_ite, Nat.reduceEqDiff, eq_self, if_true, if_false, not_true_eq_false, not_false_eq_true]
      · simp only [cz, if_false] at r1
        obtain ⟨r, a1, a2, a3⟩ := ih (i + 1) n m (q + 1) (by omega) (by omega) (by omega) (by omega)
        refine ⟨r, a1, ?_, ?_⟩
        · simp -implicitDefEqProofs (disch := omega) only [e_X7_knowers_5, e_X7_knowers_5__1, e_X7_knowers_5__2, e_X7_knowers_55, e_X7_knowers_55__1, wb_nw h, c, r1, wx_bd, wx_let, wx_st, wx_lit, wx_ga, wx_sa, pk_mul, nI_add, wx_le, wx_lt, wx_eq, wx_en, wx_ne', wx_nn, wx_ltn, wx_len, wx_nlt, wx_nle, wx_bz0, wx_bz1, if_pos, if_neg, wx_ite, Nat.reduceEqDiff, eq_self, if_true, if_false, not_true_eq_false, not_false_eq_true]
          exact a2
        · rw [← a3]
          simp -implicitDefEqProofs (disch := omega) only [e_X12_whose_65, e_X12_whose_65__1, e_X12_whose_65__2, e_X12_whose_65__3, e_X12_whose_65__4, e_X12_whose_101, e_X12_whose_101__1, e_X12_has, n4, c, r2, wx_bd, wx_let, wx_st, wx_lit, wx_ga, wx_sa, pk_mul, nI_add, wx_le, wx_lt, wx_eq, wx_en, wx_ne', wx_nn, wx_ltn, wx_len, wx_nlt, wx_nle, wx_bz0, wx_bz1, if_pos, if_neg, wx_ite, Nat.reduceEqDiff, eq_self, if_true, if_false, not_true_eq_false, not_false_eq_true]
    · obtain ⟨r, a1, a2, a3⟩ := ih (i + 1) n m q (by omega) (by omega) (by omega) (by omega)
      refine ⟨r, a1, ?_, ?_⟩
      · simp -implicitDefEqProofs (disch := omega) only [e_X7_knowers_5, e_X7_knowers_5__1, e_X7_knowers_5__2, e_X7_knowers_55, e_X7_knowers_55__1, wb_nw h, c, wx_bd, wx_let, wx_st, wx_lit, wx_ga, wx_sa, pk_mul, nI_add, wx_le, wx_lt, wx_eq, wx_en, wx_ne', wx_nn, wx_ltn, wx_len, wx_nlt, wx_nle, wx_bz0, wx_bz1, if_pos, if_neg, wx_ite, Nat.reduceEqDiff, eq_self, if_true, if_false, not_true_eq_false, not_false_eq_true]
        exact a2
      · rw [← a3]
        simp -implicitDefEqProofs (disch := omega) only [e_X12_whose_65, e_X12_whose_65__1, e_X12_whose_65__2, e_X12_whose_65__3, e_X12_whose_65__4, e_X12_whose_101, e_X12_whose_101__1, e_X12_has, n4, c, wx_bd, wx_let, wx_st, wx_lit, wx_ga, wx_sa, pk_mul, nI_add, wx_le, wx_lt, wx_eq, wx_en, wx_ne', wx_nn, wx_ltn, wx_len, wx_nlt, wx_nle, wx_bz0, wx_bz1, if_pos, if_neg, wx_ite, Nat.reduceEqDiff, eq_self, if_true, if_false, not_true_eq_false, not_false_eq_true]
set_option maxHeartbeats 1000000 in
theorem wl_big {C r : Nat} (hC : C ≤ 10) (hr : r ≤ 8) : ¬ nI 100000000 ≤ (if nI r ≤ nI C - nI r then nI C - nI r else nI r) := by
  rw [Int32.le_iff_toInt_le]
  split
  · rw [pk_sub_toInt (by omega) (by omega), nI_toInt (by omega)]; omega
  · rw [nI_toInt (by omega), nI_toInt (by omega)]; omega
set_option maxHeartbeats 1000000 in
theorem wl_cause (h : wB nw nj nc σ 1 (τ 1) τ) (hN : wN nw nj nc τ) (x : Int32) {C : Nat} (hC : C ≤ 10) : ∀ d i n m b v, i + d = 8 → 1 ≤ i → d < n → d < m → b < 8 → ∃ r, r < 8 ∧ f_X7_causeToLookAt_25 n 280 x (nI C) (nI b) v (nI i) σ = some (nI r, σ) ∧ f_X12_whose_52 m 0 x (nI C) (nI b) v (nI i) τ = some (nI r, τ) := by
  obtain ⟨n1, n2, n3, n4, n5, n6⟩ := id hN
  intro d
  induction d with
  | zero =>
    intro i n m b v hi h1 hn hm hb
    obtain ⟨n, rfl⟩ : ∃ k, n = k + 1 := ⟨n - 1, by omega⟩
    obtain ⟨m, rfl⟩ : ∃ k, m = k + 1 := ⟨m - 1, by omega⟩
    exact ⟨b, hb, by simp -implicitDefEqProofs (disch := omega) only [e_X7_causeToLookAt_25, e_X7_causeToLookAt_25__1, e_X7_causeToLookAt_25__2, wx_bd, wx_let, wx_st, wx_lit, wx_ga, wx_sa, pk_mul, nI_add, wx_le, wx_lt, wx_eq, wx_en, wx_ne', wx_nn, wx_ltn, wx_len, wx_nlt, wx_nle, wx_bz0, wx_bz1, if_pos, if_neg, wx_ite, Nat.reduceEqDiff, eq_self, if_true, if_false, not_true_eq_false, not_false_eq_true], by simp -implicitDefEqProofs (disch := omega) only [e_X12_whose_52, wx_bd, wx_let, wx_st, wx_lit, wx_ga, wx_sa, pk_mul, nI_add, wx_le, wx_lt, wx_eq, wx_en, wx_ne', wx_nn, wx_ltn, wx_len, wx_nlt, wx_nle, wx_bz0, wx_bz1, if_pos, if_neg, wx_ite, Nat.reduceEqDiff, eq_self, if_true, if_false, not_true_eq_false, not_false_eq_true]⟩
  | succ d ih =>
    intro i n m b v hi h1 hn hm hb
    obtain ⟨n, rfl⟩ : ∃ k, n = k + 1 := ⟨n - 1, by omega⟩
    obtain ⟨m, rfl⟩ : ∃ k, m = k + 1 := ⟨m - 1, by omega⟩
    obtain ⟨r, r1, r2, r3⟩ := wl_knowers h hN x (nI i) (f_X12_whose_52 m) (nI C) (nI b) v nw 0 wg_N wg_N 0 (by omega) (by rw [wx_N]; omega) (by rw [wx_N]; omega) (by omega)
    have kn : f_X7_knowers 280 x (nI i) σ = some (nI r, σ) := by rw [e_X7_knowers]; exact r2
    have bne : ¬ nI b = -nI 1 := by
      intro e
      have := congrArg Int32.toInt e
      rw [nI_toInt (by omega), wx_neg_toInt (by omega)] at this
      omega
    obtain ⟨u, hu⟩ : ∃ u, u = (if nI r ≤ nI C - nI r then nI C - nI r else nI r) := ⟨_, rfl⟩
    by_cases c : v ≤ u
    · have hl : (if u ≤ v then u else v) = v := by
        split
        · exact Int32.le_antisymm ‹_› c
        · rfl
      obtain ⟨s, s1, s2, s3⟩ := ih (i + 1) n m b v (by omega) (by omega) (by omega) (by omega) hb
      refine ⟨s, s1, ?_, ?_⟩
      · simp -implicitDefEqProofs (disch := omega) only [e_X7_causeToLookAt_25, e_X7_causeToLookAt_25__1, e_X7_causeToLookAt_25__2, e_X7_causeToLookAt_71, e_X7_causeToLookAt_71__1, kn, wl_max, ← hu, bne, c, wx_bd, wx_let, wx_st, wx_lit, wx_ga, wx_sa, pk_mul, nI_add, wx_le, wx_lt, wx_eq, wx_en, wx_ne', wx_nn, wx_ltn, wx_len, wx_nlt, wx_nle, wx_bz0, wx_bz1, if_pos, if_neg, wx_ite, Nat.reduceEqDiff, eq_self, if_true, if_false, not_true_eq_false, not_false_eq_true]
        exact s2
      · simp -implicitDefEqProofs (disch := omega) only [e_X12_whose_52, wx_bd, wx_let, wx_st, wx_lit, wx_ga, wx_sa, pk_mul, nI_add, wx_le, wx_lt, wx_eq, wx_en, wx_ne', wx_nn, wx_ltn, wx_len, wx_nlt, wx_nle, wx_bz0, wx_bz1, if_pos, if_neg, wx_ite, Nat.reduceEqDiff, eq_self, if_true, if_false, not_true_eq_false, not_false_eq_true]
        refine Eq.trans r3 ?_
        rw [show (1 : Nat) = 0 + 1 from rfl]
        simp -implicitDefEqProofs (disch := omega) only [e_X12_whose_65, e_X12_whose_65__1, e_X12_whose_65__2, e_X12_whose_65__3, e_X12_whose_65__4, e_X12_whose_133, e_X12_whose_133__1, e_X12_whose_133__2, n4, wl_greater, wl_lesser, ← hu, c, hl, wx_bd, wx_let, wx_st, wx_lit, wx_ga, wx_sa, pk_mul, nI_add, wx_le, wx_lt, wx_eq, wx_en, wx_ne', wx_nn, wx_ltn, wx_len, wx_nlt, wx_nle, wx_bz0, wx_bz1, if_pos, if_neg, wx_ite, Nat.reduceEqDiff, eq_self, if_true, if_false, not_true_eq_false, not_false_eq_true]
        exact s3
    · have hl : (if u ≤ v then u else v) = u := by
        rw [if_pos]
        rw [Int32.le_iff_toInt_le] at c ⊢
        omega
      obtain ⟨s, s1, s2, s3⟩ := ih (i + 1) n m i u (by omega) (by omega) (by omega) (by omega) (by omega)
      refine ⟨s, s1, ?_, ?_⟩
      · simp -implicitDefEqProofs (disch := omega) only [e_X7_causeToLookAt_25, e_X7_causeToLookAt_25__1, e_X7_causeToLookAt_25__2, e_X7_causeToLookAt_64, e_X7_causeToLookAt_71, e_X7_causeToLookAt_71__1, kn, wl_max, ← hu, bne, c, wx_bd, wx_let, wx_st, wx_lit, wx_ga, wx_sa, pk_mul, nI_add, wx_le, wx_lt, wx_eq, wx_en, wx_ne', wx_nn, wx_ltn, wx_len, wx_nlt, wx_nle, wx_bz0, wx_bz1, if_pos, if_neg, wx_ite, Nat.reduceEqDiff, eq_self, if_true, if_false, not_true_eq_false, not_false_eq_true]
        exact s2
      · simp -implicitDefEqProofs (disch := omega) only [e_X12_whose_52, wx_bd, wx_let, wx_st, wx_lit, wx_ga, wx_sa, pk_mul, nI_add, wx_le, wx_lt, wx_eq, wx_en, wx_ne', wx_nn, wx_ltn, wx_len, wx_nlt, wx_nle, wx_bz0, wx_bz1, if_pos, if_neg, wx_ite, Nat.reduceEqDiff, eq_self, if_true, if_false, not_true_eq_false, not_false_eq_true]
        refine Eq.trans r3 ?_
        rw [show (1 : Nat) = 0 + 1 from rfl]
        simp -implicitDefEqProofs (disch := omega) only [e_X12_whose_65, e_X12_whose_65__1, e_X12_whose_65__2, e_X12_whose_65__3, e_X12_whose_65__4, e_X12_whose_133, e_X12_whose_133__1, e_X12_whose_133__2, n4, wl_greater, wl_lesser, ← hu, c, hl, wx_bd, wx_let, wx_st, wx_lit, wx_ga, wx_sa, pk_mul, nI_add, wx_le, wx_lt, wx_eq, wx_en, wx_ne', wx_nn, wx_ltn, wx_len, wx_nlt, wx_nle, wx_bz0, wx_bz1, if_pos, if_neg, wx_ite, Nat.reduceEqDiff, eq_self, if_true, if_false, not_true_eq_false, not_false_eq_true]
        exact s3
set_option maxHeartbeats 1000000 in
theorem wl_cause0 (h : wB nw nj nc σ 1 (τ 1) τ) (hN : wN nw nj nc τ) (x : Int32) {C : Nat} (hC : C ≤ 10) : ∃ r, r < 8 ∧ f_X7_causeToLookAt_25 wg_N 280 x (nI C) (-nI 1) (nI 0) (nI 0) σ = some (nI r, σ) ∧ f_X12_whose_52 wg_N 0 x (nI C) (nI 0) (nI 100000000) (nI 0) τ = some (nI r, τ) := by
  obtain ⟨n1, n2, n3, n4, n5, n6⟩ := id hN
  obtain ⟨F, hF⟩ : ∃ F, wg_N = F + 1 := ⟨4999, by rw [wx_N]⟩
  have hF2 : F = 4999 := by rw [wx_N] at hF; omega
  obtain ⟨r, r1, r2, r3⟩ := wl_knowers h hN x (nI 0) (f_X12_whose_52 F) (nI C) (nI 0) (nI 100000000) nw 0 wg_N wg_N 0 (by omega) (by rw [wx_N]; omega) (by rw [wx_N]; omega) (by omega)
  have kn : f_X7_knowers 280 x (nI 0) σ = some (nI r, σ) := by rw [e_X7_knowers]; exact r2
  have big := wl_big hC (show r ≤ 8 by omega)
  obtain ⟨u, hu⟩ : ∃ u, u = (if nI r ≤ nI C - nI r then nI C - nI r else nI r) := ⟨_, rfl⟩
  rw [← hu] at big
  have hl : (if u ≤ nI 100000000 then u else nI 100000000) = u := by
    rw [if_pos]
    rw [Int32.le_iff_toInt_le] at big ⊢
    omega
  obtain ⟨s, s1, s2, s3⟩ := wl_cause h hN x hC 7 1 F F 0 u (by omega) (by omega) (by omega) (by omega) (by omega)
  refine ⟨s, s1, ?_, ?_⟩
  · rw [show f_X7_causeToLookAt_25 wg_N = f_X7_causeToLookAt_25 (F + 1) by rw [hF]]
    simp -implicitDefEqProofs (disch := omega) only [e_X7_causeToLookAt_25, e_X7_causeToLookAt_25__1, e_X7_causeToLookAt_25__2, e_X7_causeToLookAt_64, e_X7_causeToLookAt_71, e_X7_causeToLookAt_71__1, kn, wl_max, ← hu, wx_bd, wx_let, wx_st, wx_lit, wx_ga, wx_sa, pk_mul, nI_add, wx_le, wx_lt, wx_eq, wx_en, wx_ne', wx_nn, wx_ltn, wx_len, wx_nlt, wx_nle, wx_bz0, wx_bz1, if_pos, if_neg, wx_ite, Nat.reduceEqDiff, eq_self, if_true, if_false, not_true_eq_false, not_false_eq_true]
    exact s2
  · rw [show f_X12_whose_52 wg_N = f_X12_whose_52 (F + 1) by rw [hF]]
    simp -implicitDefEqProofs (disch := omega) only [e_X12_whose_52, wx_bd, wx_let, wx_st, wx_lit, wx_ga, wx_sa, pk_mul, nI_add, wx_le, wx_lt, wx_eq, wx_en, wx_ne', wx_nn, wx_ltn, wx_len, wx_nlt, wx_nle, wx_bz0, wx_bz1, if_pos, if_neg, wx_ite, Nat.reduceEqDiff, eq_self, if_true, if_false, not_true_eq_false, not_false_eq_true]
    refine Eq.trans r3 ?_
    rw [show (1 : Nat) = 0 + 1 from rfl]
    simp -implicitDefEqProofs (disch := omega) only [e_X12_whose_65, e_X12_whose_65__1, e_X12_whose_65__2, e_X12_whose_65__3, e_X12_whose_65__4, e_X12_whose_133, e_X12_whose_133__1, e_X12_whose_133__2, n4, wl_greater, wl_lesser, ← hu, big, hl, wx_bd, wx_let, wx_st, wx_lit, wx_ga, wx_sa, pk_mul, nI_add, wx_le, wx_lt, wx_eq, wx_en, wx_ne', wx_nn, wx_ltn, wx_len, wx_nlt, wx_nle, wx_bz0, wx_bz1, if_pos, if_neg, wx_ite, Nat.reduceEqDiff, eq_self, if_true, if_false, not_true_eq_false, not_false_eq_true]
    exact s3
end WK
set_option maxHeartbeats 1000000 in
theorem ws_whose : wp_whose wR := by
  intro σ τ a0 h
  have h := wR_told (nI 0) h
  simp only [e_X12_whose, wx_st, wx_lit]
  generalize wg_u τ 0 0 (nI 0) = τ at h ⊢
  obtain ⟨nw, nj, nc, hX, hY, hP, hI, hD⟩ := wR_X h
  obtain ⟨n1, n2, n3, n4, n5, n6⟩ := id hX.1
  obtain ⟨N, N8, e49, e45, hT⟩ := hX.2.2.2.1.2.2.2.2.1
  obtain ⟨M, M1, M2, M3⟩ := wl_whose_l hX.2.1 hX.1 N8 e49 e45 hT nw 0 wg_N wg_N 0 (by omega) (by rw [wx_N]; omega) (by rw [wx_N]; omega) (by decide)
  have hb : 2 ^ nw ≤ 2 ^ 8 := Nat.pow_le_pow_right (by omega) n1
  have w1 : f_X7_whoseSet 280 σ = some (nI M, σ) := by rw [e_X7_whoseSet]; exact M2
  have w2 : f_X12_whoseSet 0 τ = some (nI M, τ) := by rw [e_X12_whoseSet]; exact M3
  rcases wk_in a0 0 1 (by omega) (by omega) with ⟨i1, i2⟩ | ⟨k, -, k1, rfl, i1, i2⟩
  · refine ⟨-nI 1, σ, τ, ?_, by simp -implicitDefEqProofs (disch := omega) only [e_X12_whose, e_X12_whose__1, e_X12_whose__2, e_X12_whose__3, e_X12_whose__4, i2, wx_bd, wx_let, wx_st, wx_lit, wx_ga, wx_sa, pk_mul, nI_add, wx_le, wx_lt, wx_eq, wx_en, wx_ne', wx_nn, wx_ltn, wx_len, wx_nlt, wx_nle, wx_bz0, wx_bz1, if_pos, if_neg, wx_ite, Nat.reduceEqDiff, eq_self, if_true, if_false, not_true_eq_false, not_false_eq_true], h⟩
    have d0 : ¬ a0.toInt = 0 := fun e => by
      have e : a0 = nI 0 := Int32.toInt_inj.mp (by rw [e]; rfl)
      subst e
      have := i2 τ
      simp -implicitDefEqProofs (disch := omega) only [e_X12_isIn, wx_bd, wx_let, wx_st, wx_lit, wx_ga, wx_sa, pk_mul, nI_add, wx_le, wx_lt, wx_eq, wx_en, wx_ne', wx_nn, wx_ltn, wx_len, wx_nlt, wx_nle, wx_bz0, wx_bz1, if_pos, if_neg, wx_ite, Nat.reduceEqDiff, eq_self, if_true, if_false, not_true_eq_false, not_false_eq_true] at this
      exact absurd (Prod.mk.inj (Option.some.inj this)).1 (by decide)
    have d1 : ¬ a0.toInt = 1 := fun e => by
      have e : a0 = nI 1 := Int32.toInt_inj.mp (by rw [e]; rfl)
      subst e
      have := i2 τ
      simp -implicitDefEqProofs (disch := omega) only [e_X12_isIn, wx_bd, wx_let, wx_st, wx_lit, wx_ga, wx_sa, pk_mul, nI_add, wx_le, wx_lt, wx_eq, wx_en, wx_ne', wx_nn, wx_ltn, wx_len, wx_nlt, wx_nle, wx_bz0, wx_bz1, if_pos, if_neg, wx_ite, Nat.reduceEqDiff, eq_self, if_true, if_false, not_true_eq_false, not_false_eq_true] at this
      exact absurd (Prod.mk.inj (Option.some.inj this)).1 (by decide)
    simp only [e_X11_whose, wg_lz, d0, d1, if_false, wx_lit]
  · have hpc : wh_pc M ≤ 10 := wh_n_le _ _
    have go := wl_ones (show M < 1024 by omega) τ
    have gb := wh_bc_pc M (by omega)
    rcases (show k = 0 ∨ k = 1 by omega) with rfl | rfl
    · refine ⟨nI M, σ, τ, ?_, ?_, h⟩
      · simp -implicitDefEqProofs (disch := omega) only [e_X11_whose, e_X11_whose__1, e_X11_whose__2, wg_lz, wo_t0, w1, wx_bd, wx_let, wx_st, wx_lit, wx_ga, wx_sa, pk_mul, nI_add, wx_le, wx_lt, wx_eq, wx_en, wx_ne', wx_nn, wx_ltn, wx_len, wx_nlt, wx_nle, wx_bz0, wx_bz1, if_pos, if_neg, wx_ite, Nat.reduceEqDiff, eq_self, if_true, if_false, not_true_eq_false, not_false_eq_true]
      · simp -implicitDefEqProofs (disch := omega) only [e_X12_whose, e_X12_whose__1, e_X12_whose__2, e_X12_whose__3, e_X12_whose__4, i2, w2, wx_bd, wx_let, wx_st, wx_lit, wx_ga, wx_sa, pk_mul, nI_add, wx_le, wx_lt, wx_eq, wx_en, wx_ne', wx_nn, wx_ltn, wx_len, wx_nlt, wx_nle, wx_bz0, wx_bz1, if_pos, if_neg, wx_ite, Nat.reduceEqDiff, eq_self, if_true, if_false, not_true_eq_false, not_false_eq_true]
    · obtain ⟨r, r1, r2, r3⟩ := wl_cause0 hX.2.1 hX.1 (nI M) hpc
      by_cases c : 2 ≤ wh_pc M
      · have ct : f_X7_causeToLookAt 280 σ = some (nI r, σ) := by
          simp -implicitDefEqProofs (disch := omega) only [e_X7_causeToLookAt, e_X7_causeToLookAt__1, e_X7_causeToLookAt__2, w1, wh_bcC, gb, wx_bd, wx_let, wx_st, wx_lit, wx_ga, wx_sa, pk_mul, nI_add, wx_le, wx_lt, wx_eq, wx_en, wx_ne', wx_nn, wx_ltn, wx_len, wx_nlt, wx_nle, wx_bz0, wx_bz1, if_pos, if_neg, wx_ite, Nat.reduceEqDiff, eq_self, if_true, if_false, not_true_eq_false, not_false_eq_true]
          exact r2
        refine ⟨nI r, σ, τ, ?_, ?_, h⟩
        · simp -implicitDefEqProofs (disch := omega) only [e_X11_whose, e_X11_whose__1, e_X11_whose__2, wg_lz, wo_t1, Int.reduceEq, ct, wx_bd, wx_let, wx_st, wx_lit, wx_ga, wx_sa, pk_mul, nI_add, wx_le, wx_lt, wx_eq, wx_en, wx_ne', wx_nn, wx_ltn, wx_len, wx_nlt, wx_nle, wx_bz0, wx_bz1, if_pos, if_neg, wx_ite, Nat.reduceEqDiff, eq_self, if_true, if_false, not_true_eq_false, not_false_eq_true]
        · simp -implicitDefEqProofs (disch := omega) only [e_X12_whose, e_X12_whose__1, e_X12_whose__2, e_X12_whose__3, e_X12_whose__4, i2, w2, go, wx_bd, wx_let, wx_st, wx_lit, wx_ga, wx_sa, pk_mul, nI_add, wx_le, wx_lt, wx_eq, wx_en, wx_ne', wx_nn, wx_ltn, wx_len, wx_nlt, wx_nle, wx_bz0, wx_bz1, if_pos, if_neg, wx_ite, Nat.reduceEqDiff, eq_self, if_true, if_false, not_true_eq_false, not_false_eq_true]
          exact r3
      · have ct : f_X7_causeToLookAt 280 σ = some (-nI 1, σ) := by
          simp -implicitDefEqProofs (disch := omega) only [e_X7_causeToLookAt, e_X7_causeToLookAt__1, e_X7_causeToLookAt__2, w1, wh_bcC, gb, wx_bd, wx_let, wx_st, wx_lit, wx_ga, wx_sa, pk_mul, nI_add, wx_le, wx_lt, wx_eq, wx_en, wx_ne', wx_nn, wx_ltn, wx_len, wx_nlt, wx_nle, wx_bz0, wx_bz1, if_pos, if_neg, wx_ite, Nat.reduceEqDiff, eq_self, if_true, if_false, not_true_eq_false, not_false_eq_true]
        refine ⟨-nI 1, σ, τ, ?_, ?_, h⟩
        · simp -implicitDefEqProofs (disch := omega) only [e_X11_whose, e_X11_whose__1, e_X11_whose__2, wg_lz, wo_t1, Int.reduceEq, ct, wx_bd, wx_let, wx_st, wx_lit, wx_ga, wx_sa, pk_mul, nI_add, wx_le, wx_lt, wx_eq, wx_en, wx_ne', wx_nn, wx_ltn, wx_len, wx_nlt, wx_nle, wx_bz0, wx_bz1, if_pos, if_neg, wx_ite, Nat.reduceEqDiff, eq_self, if_true, if_false, not_true_eq_false, not_false_eq_true]
        · simp -implicitDefEqProofs (disch := omega) only [e_X12_whose, e_X12_whose__1, e_X12_whose__2, e_X12_whose__3, e_X12_whose__4, i2, w2, go, wx_bd, wx_let, wx_st, wx_lit, wx_ga, wx_sa, pk_mul, nI_add, wx_le, wx_lt, wx_eq, wx_en, wx_ne', wx_nn, wx_ltn, wx_len, wx_nlt, wx_nle, wx_bz0, wx_bz1, if_pos, if_neg, wx_ite, Nat.reduceEqDiff, eq_self, if_true, if_false, not_true_eq_false, not_false_eq_true]

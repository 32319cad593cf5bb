/-! whose WIG it is -/
section WH
variable {nw nj nc : Nat} {σ τ : wg_M}
set_option maxHeartbeats 1000000 in
theorem wl_hasTrait (h : wB nw nj nc σ 1 (τ 1) τ) (hN : wN nw nj nc τ) {w k : Nat} (hw : w < nw) (hk4 : k < 4) (v : Int32) : ∃ z, z ≤ 1 ∧ f_X7_hasTrait 280 (nI w) (nI k) v σ = some (nI z, σ) ∧ f_X12_hasTrait 0 (nI w) (nI k) v τ = some (nI z, τ) := by
  obtain ⟨n1, n2, n3, n4, n5, n6⟩ := id hN
  have e3 := wb_colour h hw
  have e4 := wb_hair h hw
  have e6 := wb_lent h hw
  rcases (show k = 0 ∨ k = 1 ∨ k = 2 ∨ k = 3 by omega) with rfl | rfl | rfl | rfl
  · by_cases c : τ 4 w = v
    · exact ⟨1, by omega, by rw [e_X7_hasTrait, wx_swk0]; simp -implicitDefEqProofs (disch := omega) only [e_X7_hasTrait, e_X7_hasTrait__1, e_X7_hasTrait__2, e_X7_hasTrait__3, e_X7_hasTrait__4, e3, c, wx_bd, wx_let, wx_st, wx_lit, wx_ga, wx_sa, pk_mul, nI_add, wx_le, wx_lt, wx_eq, wx_en, wx_ne', wx_nn, wx_ltn, wx_len, wx_nlt, wx_nle, wx_bz0, wx_bz1, if_pos, if_neg, wx_ite, Nat.reduceEqDiff, eq_self, if_true, if_false, not_true_eq_false, not_false_eq_true], by simp -implicitDefEqProofs (disch := omega) only [e_X12_hasTrait, e_X12_hasTrait__1, e_X12_hasTrait__2, e_X12_hasTrait__3, e_X12_hasTrait__4, c, wx_bd, wx_let, wx_st, wx_lit, wx_ga, wx_sa, pk_mul, nI_add, wx_le, wx_lt, wx_eq, wx_en, wx_ne', wx_nn, wx_ltn, wx_len, wx_nlt, wx_nle, wx_bz0, wx_bz1, if_pos, if_neg, wx_ite, Nat.reduceEqDiff, eq_self, if_true, if_false, not_true_eq_false, not_false_eq_true]⟩
    · exact ⟨0, by omega, by rw [e_X7_hasTrait, wx_swk0]; simp -implicitDefEqProofs (disch := omega) only [e_X7_hasTrait, e_X7_hasTrait__1, e_X7_hasTrait__2, e_X7_hasTrait__3, e_X7_hasTrait__4, e3, c, wx_bd, wx_let, wx_st, wx_lit, wx_ga, wx_sa, pk_mul, nI_add, wx_le, wx_lt, wx_eq, wx_en, wx_ne', wx_nn, wx_ltn, wx_len, wx_nlt, wx_nle, wx_bz0, wx_bz1, if_pos, if_neg, wx_ite, Nat.reduceEqDiff, eq_self, if_true, if_false, not_true_eq_false, not_false_eq_true], by simp -implicitDefEqProofs (disch := omega) only [e_X12_hasTrait, e_X12_hasTrait__1, e_X12_hasTrait__2, e_X12_hasTrait__3, e_X12_hasTrait__4, c, wx_bd, wx_let, wx_st, wx_lit, wx_ga, wx_sa, pk_mul, nI_add, wx_le, wx_lt, wx_eq, wx_en, wx_ne', wx_nn, wx_ltn, wx_len, wx_nlt, wx_nle, wx_bz0, wx_bz1, if_pos, if_neg, wx_ite, Nat.reduceEqDiff, eq_self, if_true, if_false, not_true_eq_false, not_false_eq_true]⟩
  · by_cases c : τ 1 (43 + w) < v
    · exact ⟨0, by omega, by rw [e_X7_hasTrait, wx_swk1]; simp -implicitDefEqProofs (disch := omega) only [e_X7_hasTrait, e_X7_hasTrait__1, e_X7_hasTrait__2, e_X7_hasTrait__3, e_X7_hasTrait__4, e4, c, wx_bd, wx_let, wx_st, wx_lit, wx_ga, wx_sa, pk_mul, nI_add, wx_le, wx_lt, wx_eq, wx_en, wx_ne', wx_nn, wx_ltn, wx_len, wx_nlt, wx_nle, wx_bz0, wx_bz1, if_pos, if_neg, wx_ite, Nat.reduceEqDiff, eq_self, if_true, if_false, not_true_eq_false, not_false_eq_true], by simp -implicitDefEqProofs (disch := omega) only [e_X12_hasTrait, e_X12_hasTrait__1, e_X12_hasTrait__2, e_X12_hasTrait__3, e_X12_hasTrait__4, c, wx_bd, wx_let, wx_st, wx_lit, wx_ga, wx_sa, pk_mul, nI_add, wx_le, wx_lt, wx_eq, wx_en, wx_ne', wx_nn, wx_ltn, wx_len, wx_nlt, wx_nle, wx_bz0, wx_bz1, if_pos, if_neg, wx_ite, Nat.reduceEqDiff, eq_self, if_true, if_false, not_true_eq_false, not_false_eq_true]⟩
    · exact ⟨1, by omega, by rw [e_X7_hasTrait, wx_swk1]; simp -implicitDefEqProofs (disch := omega) only [e_X7_hasTrait, e_X7_hasTrait__1, e_X7_hasTrait__2, e_X7_hasTrait__3, e_X7_hasTrait__4, e4, c, wx_bd, wx_let, wx_st, wx_lit, wx_ga, wx_sa, pk_mul, nI_add, wx_le, wx_lt, wx_eq, wx_en, wx_ne', wx_nn, wx_ltn, wx_len, wx_nlt, wx_nle, wx_bz0, wx_bz1, if_pos, if_neg, wx_ite, Nat.reduceEqDiff, eq_self, if_true, if_false, not_true_eq_false, not_false_eq_true], by simp -implicitDefEqProofs (disch := omega) only [e_X12_hasTrait, e_X12_hasTrait__1, e_X12_hasTrait__2, e_X12_hasTrait__3, e_X12_hasTrait__4, c, wx_bd, wx_let, wx_st, wx_lit, wx_ga, wx_sa, pk_mul, nI_add, wx_le, wx_lt, wx_eq, wx_en, wx_ne', wx_nn, wx_ltn, wx_len, wx_nlt, wx_nle, wx_bz0, wx_bz1, if_pos, if_neg, wx_ite, Nat.reduceEqDiff, eq_self, if_true, if_false, not_true_eq_false, not_false_eq_true]⟩
  · obtain ⟨k, k8, hk, -⟩ := wb_k h hw
    have r1 := wl_knows h hN hw hk k8 v
    have r2 := wl_rulesFor hN hw hk k8 v
    have hq := wh_n_le (fun i => decide (τ 1 (75 + 24 * w + 3 * i) = v)) k
    generalize wh_n (fun i => decide (τ 1 (75 + 24 * w + 3 * i) = v)) k = q at r1 r2 hq
    by_cases cq : q = 0
    · subst cq
      simp only [if_true] at r1
      exact ⟨0, by omega, by rw [e_X7_hasTrait, wx_swk2]; simp -implicitDefEqProofs (disch := omega) only [e_X7_hasTrait, e_X7_hasTrait__1, e_X7_hasTrait__2, e_X7_hasTrait__3, e_X7_hasTrait__4, r1, wx_bd, wx_let, wx_st, wx_lit, wx_ga, wx_sa, pk_mul, nI_add, wx_le, wx_lt, wx_eq, wx_en, wx_ne', wx_nn, wx_ltn, wx_len, wx_nlt, wx_nle, wx_bz0, wx_bz1, if_pos, if_neg, wx_ite, Nat.reduceEqDiff, eq_self, if_true, if_false, not_true_eq_false, not_false_eq_true], by simp -implicitDefEqProofs (disch := omega) only [e_X12_hasTrait, e_X12_hasTrait__1, e_X12_hasTrait__2, e_X12_hasTrait__3, e_X12_hasTrait__4, r2, wx_bd, wx_let, wx_st, wx_lit, wx_ga, wx_sa, pk_mul, nI_add, wx_le, wx_lt, wx_eq, wx_en, wx_ne', wx_nn, wx_ltn, wx_len, wx_nlt, wx_nle, wx_bz0, wx_bz1, if_pos, if_neg, wx_ite, Nat.reduceEqDiff, eq_self, if_true, if_false, not_true_eq_false, not_false_eq_true]⟩
    · simp only [cq, if_false] at r1
      exact ⟨1, by omega, by rw [e_X7_hasTrait, wx_swk2]; simp -implicitDefEqProofs (disch := omega) only [e_X7_hasTrait, e_X7_hasTrait__1, e_X7_hasTrait__2, e_X7_hasTrait__3, e_X7_hasTrait__4, r1, wx_bd, wx_let, wx_st, wx_lit, wx_ga, wx_sa, pk_mul, nI_add, wx_le, wx_lt, wx_eq, wx_en, wx_ne', wx_nn, wx_ltn, wx_len, wx_nlt, wx_nle, wx_bz0, wx_bz1, if_pos, if_neg, wx_ite, Nat.reduceEqDiff, eq_self, if_true, if_false, not_true_eq_false, not_false_eq_true], by simp -implicitDefEqProofs (disch := omega) only [e_X12_hasTrait, e_X12_hasTrait__1, e_X12_hasTrait__2, e_X12_hasTrait__3, e_X12_hasTrait__4, r2, wx_bd, wx_let, wx_st, wx_lit, wx_ga, wx_sa, pk_mul, nI_add, wx_le, wx_lt, wx_eq, wx_en, wx_ne', wx_nn, wx_ltn, wx_len, wx_nlt, wx_nle, wx_bz0, wx_bz1, if_pos, if_neg, wx_ite, Nat.reduceEqDiff, eq_self, if_true, if_false, not_true_eq_false, not_false_eq_true]⟩
  · have hsw : ∀ {α : Type} {cs : List (Option α)} {D : Option α}, cs.length = 3 → wg_sw (nI 3) 0 cs D = D := fun hl => wx_sw_out (fun k hk e => by
      have := (nI_eq (by omega) (by omega)).mp e
      omega) (by omega)
    by_cases c : τ 1 (59 + w) < v
    · exact ⟨0, by omega, by rw [e_X7_hasTrait, hsw rfl]; simp -implicitDefEqProofs (disch := omega) only [e_X7_hasTrait, e_X7_hasTrait__1, e_X7_hasTrait__2, e_X7_hasTrait__3, e_X7_hasTrait__4, e6, c, wx_bd, wx_let, wx_st, wx_lit, wx_ga, wx_sa, pk_mul, nI_add, wx_le, wx_lt, wx_eq, wx_en, wx_ne', wx_nn, wx_ltn, wx_len, wx_nlt, wx_nle, wx_bz0, wx_bz1, if_pos, if_neg, wx_ite, Nat.reduceEqDiff, eq_self, if_true, if_false, not_true_eq_false, not_false_eq_true], by simp -implicitDefEqProofs (disch := omega) only [e_X12_hasTrait, e_X12_hasTrait__1, e_X12_hasTrait__2, e_X12_hasTrait__3, e_X12_hasTrait__4, c, wx_bd, wx_let, wx_st, wx_lit, wx_ga, wx_sa, pk_mul, nI_add, wx_le, wx_lt, wx_eq, wx_en, wx_ne', wx_nn, wx_ltn, wx_len, wx_nlt, wx_nle, wx_bz0, wx_bz1, if_pos, if_neg, wx_ite, Nat.reduceEqDiff, eq_self, if_true, if_false, not_true_eq_false, not_false_eq_true]⟩
    · exact ⟨1, by omega, by rw [e_X7_hasTrait, hsw rfl]; simp -implicitDefEqProofs (disch := omega) only [e_X7_hasTrait, e_X7_hasTrait__1, e_X7_hasTrait__2, e_X7_hasTrait__3, e_X7_hasTrait__4, e6, c, wx_bd, wx_let, wx_st, wx_lit, wx_ga, wx_sa, pk_mul, nI_add, wx_le, wx_lt, wx_eq, wx_en, wx_ne', wx_nn, wx_ltn, wx_len, wx_nlt, wx_nle, wx_bz0, wx_bz1, if_pos, if_neg, wx_ite, Nat.reduceEqDiff, eq_self, if_true, if_false, not_true_eq_false, not_false_eq_true], by simp -implicitDefEqProofs (disch := omega) only [e_X12_hasTrait, e_X12_hasTrait__1, e_X12_hasTrait__2, e_X12_hasTrait__3, e_X12_hasTrait__4, c, wx_bd, wx_let, wx_st, wx_lit, wx_ga, wx_sa, pk_mul, nI_add, wx_le, wx_lt, wx_eq, wx_en, wx_ne', wx_nn, wx_ltn, wx_len, wx_nlt, wx_nle, wx_bz0, wx_bz1, if_pos, if_neg, wx_ite, Nat.reduceEqDiff, eq_self, if_true, if_false, not_true_eq_false, not_false_eq_true]⟩
set_option maxHeartbeats 1000000 in
/-- the reference goes on where a trait was not as told -/
theorem wl_ws17 (h : wB nw nj nc σ 1 (τ 1) τ) (hN : wN nw nj nc τ) {w N : Nat} (hw : w < nw) (hN8 : N ≤ 8) (e45 : τ 0 45 = nI N) (hT : ∀ i, i < N → ∃ k, k < 4 ∧ τ 24 i = nI k) (k4 : Nat → Int32 → Int32 → wg_M → Option (Int32 × wg_M)) (x : Int32) : ∀ d i m, i + d = N → d < m → f_X12_whoseSet_17 k4 m 0 x (nI w) (nI 0) (nI i) τ = f_X12_whoseSet_82 k4 0 x (nI w) τ := by
  intro d
  induction d with
  | zero =>
    intro i m hi hm
    obtain ⟨m, rfl⟩ : ∃ k, m = k + 1 := ⟨m - 1, by omega⟩
    simp -implicitDefEqProofs (disch := omega) only [e_X12_whoseSet_17, e_X12_whoseSet_17__1, e_X12_whoseSet_17__2, e_X12_whoseSet_17__3, e_X12_whoseSet_17__4, e_X12_whoseSet_17__5, e45, wx_bd, wx_let, wx_st, wx_lit, wx_ga, wx_sa, pk_mul, nI_add, wx_le, wx_lt, wx_eq, wx_en, wx_ne', wx_nn, wx_ltn, wx_len, wx_nlt, wx_nle, wx_bz0, wx_bz1, if_pos, if_neg, wx_ite, Nat.reduceEqDiff, eq_self, if_true, if_false, not_true_eq_false, not_false_eq_true]
  | succ d ih =>
    intro i m hi hm
    obtain ⟨m, rfl⟩ : ∃ k, m = k + 1 := ⟨m - 1, by omega⟩
    have q := ih (i + 1) m (by omega) (by omega)
    obtain ⟨k, k1, k2⟩ := hT i (by omega)
    obtain ⟨z, z1, z2, z3⟩ := wl_hasTrait h hN hw k1 (τ 25 i)
    by_cases c1 : τ 26 i = nI 1
    · by_cases c2 : z = 1
      · subst c2
        simp -implicitDefEqProofs (disch := omega) only [e_X12_whoseSet_17, e_X12_whoseSet_17__1, e_X12_whoseSet_17__2, e_X12_whoseSet_17__3, e_X12_whoseSet_17__4, e_X12_whoseSet_17__5, e_X12_whoseSet_61, e_X12_whoseSet_66, e_X12_whoseSet_66__1, e45, k2, z3, c1, wx_bd, wx_let, wx_st, wx_lit, wx_ga, wx_sa, pk_mul, nI_add, wx_le, wx_lt, wx_eq, wx_en, wx_ne', wx_nn, wx_ltn, wx_len, wx_nlt, wx_nle, wx_bz0, wx_bz1, if_pos, if_neg, wx_ite, Nat.reduceEqDiff, eq_self, if_true, if_false, not_true_eq_false, not_false_eq_true]
        exact q
      · obtain rfl : z = 0 := by omega
        simp -implicitDefEqProofs (disch := omega) only [e_X12_whoseSet_17, e_X12_whoseSet_17__1, e_X12_whoseSet_17__2, e_X12_whoseSet_17__3, e_X12_whoseSet_17__4, e_X12_whoseSet_17__5, e_X12_whoseSet_61, e_X12_whoseSet_66, e_X12_whoseSet_66__1, e45, k2, z3, c1, wx_bd, wx_let, wx_st, wx_lit, wx_ga, wx_sa, pk_mul, nI_add, wx_le, wx_lt, wx_eq, wx_en, wx_ne', wx_nn, wx_ltn, wx_len, wx_nlt, wx_nle, wx_bz0, wx_bz1, if_pos, if_neg, wx_ite, Nat.reduceEqDiff, eq_self, if_true, if_false, not_true_eq_false, not_false_eq_true]
        exact q
    · by_cases c2 : z = 1
      · subst c2
        simp -implicitDefEqProofs (disch := omega) only [e_X12_whoseSet_17, e_X12_whoseSet_17__1, e_X12_whoseSet_17__2, e_X12_whoseSet_17__3, e_X12_whoseSet_17__4, e_X12_whoseSet_17__5, e_X12_whoseSet_61, e_X12_whoseSet_66, e_X12_whoseSet_66__1, e45, k2, z3, c1, wx_bd, wx_let, wx_st, wx_lit, wx_ga, wx_sa, pk_mul, nI_add, wx_le, wx_lt, wx_eq, wx_en, wx_ne', wx_nn, wx_ltn, wx_len, wx_nlt, wx_nle, wx_bz0, wx_bz1, if_pos, if_neg, wx_ite, Nat.reduceEqDiff, eq_self, if_true, if_false, not_true_eq_false, not_false_eq_true]
        exact q
      · obtain rfl : z = 0 := by omega
        simp -implicitDefEqProofs (disch := omega) only [e_X12_whoseSet_17, e_X12_whoseSet_17__1, e_X12_whoseSet_17__2, e_X12_whoseSet_17__3, e_X12_whoseSet_17__4, e_X12_whoseSet_17__5, e_X12_whoseSet_61, e_X12_whoseSet_66, e_X12_whoseSet_66__1, e45, k2, z3, c1, wx_bd, wx_let, wx_st, wx_lit, wx_ga, wx_sa, pk_mul, nI_add, wx_le, wx_lt, wx_eq, wx_en, wx_ne', wx_nn, wx_ltn, wx_len, wx_nlt, wx_nle, wx_bz0, wx_bz1, if_pos, if_neg, wx_ite, Nat.reduceEqDiff, eq_self, if_true, if_false, not_true_eq_false, not_false_eq_true]
        exact q
set_option maxHeartbeats 1000000 in
theorem wl_asTold (h : wB nw nj nc σ 1 (τ 1) τ) (hN : wN nw nj nc τ) {w N : Nat} (hw : w < nw) (hN8 : N ≤ 8) (e49 : σ 49 3 = nI N) (e45 : τ 0 45 = nI N) (hT : ∀ i, i < N → σ 50 i = τ 24 i ∧ σ 51 i = τ 25 i ∧ σ 52 i = τ 26 i ∧ (∃ k, k < 4 ∧ τ 24 i = nI k) ∧ (τ 26 i = nI 0 ∨ τ 26 i = nI 1)) : ∀ d i n m, i + d = N → d < n → d < m → ∃ z, z ≤ 1 ∧ f_X7_isAsTold_10 n 280 (nI w) 49 (nI i) σ = some (nI z, σ) ∧ ∀ k4 x, f_X12_whoseSet_17 k4 m 0 x (nI w) (nI 1) (nI i) τ = f_X12_whoseSet_82 k4 0 (if z = 1 then x ||| (nI 1 <<< (nI w &&& nI 31)) else x) (nI w) τ := by
  intro d
  induction d with
  | zero =>
    intro i n m hi hn hm
    obtain ⟨n, rfl⟩ : ∃ k, n = k + 1 := ⟨n - 1, by omega⟩
    obtain ⟨m, rfl⟩ : ∃ k, m = k + 1 := ⟨m - 1, by omega⟩
    refine ⟨1, by omega, ?_, fun k4 x => ?_⟩
    · simp -implicitDefEqProofs (disch := omega) only [e_X7_isAsTold_10, e_X7_isAsTold_10__1, e_X7_isAsTold_10__2, e_X7_isAsTold_10__3, e_X7_isAsTold_10__4, e49, wx_bd, wx_let, wx_st, wx_lit, wx_ga, wx_sa, pk_mul, nI_add, wx_le, wx_lt, wx_eq, wx_en, wx_ne', wx_nn, wx_ltn, wx_len, wx_nlt, wx_nle, wx_bz0, wx_bz1, if_pos, if_neg, wx_ite, Nat.reduceEqDiff, eq_self, if_true, if_false, not_true_eq_false, not_false_eq_true]
    · simp -implicitDefEqProofs (disch := omega) only [e_X12_whoseSet_17, e_X12_whoseSet_17__1, e_X12_whoseSet_17__2, e_X12_whoseSet_17__3, e_X12_whoseSet_17__4, e_X12_whoseSet_17__5, e45, wx_bd, wx_let, wx_st, wx_lit, wx_ga, wx_sa, pk_mul, nI_add, wx_le, wx_lt, wx_eq, wx_en, wx_ne', wx_nn, wx_ltn, wx_len, wx_nlt, wx_nle, wx_bz0, wx_bz1, if_pos, if_neg, wx_ite, Nat.reduceEqDiff, eq_self, if_true, if_false, not_true_eq_false, not_false_eq_true]
  | succ d ih =>
    intro i n m hi hn hm
    obtain ⟨n, rfl⟩ : ∃ k, n = k + 1 := ⟨n - 1, by omega⟩
    obtain ⟨m, rfl⟩ : ∃ k, m = k + 1 := ⟨m - 1, by omega⟩
    obtain ⟨r, r1, r2, r3⟩ := ih (i + 1) n m (by omega) (by omega) (by omega)
    obtain ⟨t1, t2, t3, ⟨k, k1, k2⟩, t5⟩ := hT i (by omega)
    obtain ⟨z, z1, z2, z3⟩ := wl_hasTrait h hN hw k1 (τ 25 i)
    rw [k2] at t1
    have h01 : ¬ nI 0 = nI 1 := by decide
    have h10 : ¬ nI 1 = nI 0 := by decide
    have w17 := fun k4 x => wl_ws17 h hN hw hN8 e45 (fun i hi => (hT i hi).2.2.2.1) k4 x d (i + 1) m (by omega) (by omega)
    rcases t5 with c1 | c1
    · rw [c1] at t3
      rcases (show z = 0 ∨ z = 1 by omega) with rfl | rfl
      · refine ⟨r, r1, ?_, fun k4 x => ?_⟩
        · simp -implicitDefEqProofs (disch := omega) only [e_X7_isAsTold_10, e_X7_isAsTold_10__1, e_X7_isAsTold_10__2, e_X7_isAsTold_10__3, e_X7_isAsTold_10__4, e_X7_isAsTold_50, e_X7_isAsTold_50__1, sc_r49_0, sc_r49_1, sc_r49_2, sc_n50, sc_n51, sc_n52, e49, t1, t2, t3, z2, h01, wx_bd, wx_let, wx_st, wx_lit, wx_ga, wx_sa, pk_mul, nI_add, wx_le, wx_lt, wx_eq, wx_en, wx_ne', wx_nn, wx_ltn, wx_len, wx_nlt, wx_nle, wx_bz0, wx_bz1, if_pos, if_neg, wx_ite, Nat.reduceEqDiff, eq_self, if_true, if_false, not_true_eq_false, not_false_eq_true]
          exact r2
        · simp -implicitDefEqProofs (disch := omega) only [e_X12_whoseSet_17, e_X12_whoseSet_17__1, e_X12_whoseSet_17__2, e_X12_whoseSet_17__3, e_X12_whoseSet_17__4, e_X12_whoseSet_17__5, e_X12_whoseSet_61, e_X12_whoseSet_66, e_X12_whoseSet_66__1, e45, k2, z3, c1, h01, wx_bd, wx_let, wx_st, wx_lit, wx_ga, wx_sa, pk_mul, nI_add, wx_le, wx_lt, wx_eq, wx_en, wx_ne', wx_nn, wx_ltn, wx_len, wx_nlt, wx_nle, wx_bz0, wx_bz1, if_pos, if_neg, wx_ite, Nat.reduceEqDiff, eq_self, if_true, if_false, not_true_eq_false, not_false_eq_true]
          exact r3 k4 x
      · refine ⟨0, by omega, ?_, fun k4 x => ?_⟩
        · simp -implicitDefEqProofs (disch := omega) only [e_X7_isAsTold_10, e_X7_isAsTold_10__1, e_X7_isAsTold_10__2, e_X7_isAsTold_10__3, e_X7_isAsTold_10__4, e_X7_isAsTold_50, e_X7_isAsTold_50__1, sc_r49_0, sc_r49_1, sc_r49_2, sc_n50, sc_n51, sc_n52, e49, t1, t2, t3, z2, h01, h10, wx_bd, wx_let, wx_st, wx_lit, wx_ga, wx_sa, pk_mul, nI_add, wx_le, wx_lt, wx_eq, wx_en, wx_ne', wx_nn, wx_ltn, wx_len, wx_nlt, wx_nle, wx_bz0, wx_bz1, if_pos, if_neg, wx_ite, Nat.reduceEqDiff, eq_self, if_true, if_false, not_true_eq_false, not_false_eq_true]
        · simp -implicitDefEqProofs (disch := omega) only [e_X12_whoseSet_17, e_X12_whoseSet_17__1, e_X12_whoseSet_17__2, e_X12_whoseSet_17__3, e_X12_whoseSet_17__4, e_X12_whoseSet_17__5, e_X12_whoseSet_61, e_X12_whoseSet_66, e_X12_whoseSet_66__1, e45, k2, z3, c1, h01, h10, wx_bd, wx_let, wx_st, wx_lit, wx_ga, wx_sa, pk_mul, nI_add, wx_le, wx_lt, wx_eq, wx_en, wx_ne', wx_nn, wx_ltn, wx_len, wx_nlt, wx_nle, wx_bz0, wx_bz1, if_pos, if_neg, wx_ite, Nat.reduceEqDiff, eq_self, if_true, if_false, not_true_eq_false, not_false_eq_true]
          exact w17 k4 x
    · rw [c1] at t3
      rcases (show z = 0 ∨ z = 1 by omega) with rfl | rfl
      · refine ⟨0, by omega, ?_, fun k4 x => ?_⟩
        · simp -implicitDefEqProofs (disch := omega) only [e_X7_isAsTold_10, e_X7_isAsTold_10__1, e_X7_isAsTold_10__2, e_X7_isAsTold_10__3, e_X7_isAsTold_10__4, e_X7_isAsTold_50, e_X7_isAsTold_50__1, sc_r49_0, sc_r49_1, sc_r49_2, sc_n50, sc_n51, sc_n52, e49, t1, t2, t3, z2, h01, h10, wx_bd, wx_let, wx_st, wx_lit, wx_ga, wx_sa, pk_mul, nI_add, wx_le, wx_lt, wx_eq, wx_en, wx_ne', wx_nn, wx_ltn, wx_len, wx_nlt, wx_nle, wx_bz0, wx_bz1, if_pos, if_neg, wx_ite, Nat.reduceEqDiff, eq_self, if_true, if_false, not_true_eq_false, not_false_eq_true]
        · simp -implicitDefEqProofs (disch := omega) only [e_X12_whoseSet_17, e_X12_whoseSet_17__1, e_X12_whoseSet_17__2, e_X12_whoseSet_17__3, e_X12_whoseSet_17__4, e_X12_whoseSet_17__5, e_X12_whoseSet_61, e_X12_whoseSet_66, e_X12_whoseSet_66__1, e45, k2, z3, c1, h01, h10, wx_bd, wx_let, wx_st, wx_lit, wx_ga, wx_sa, pk_mul, nI_add, wx_le, wx_lt, wx_eq, wx_en, wx_ne', wx_nn, wx_ltn, wx_len, wx_nlt, wx_nle, wx_bz0, wx_bz1, if_pos, if_neg, wx_ite, Nat.reduceEqDiff, eq_self, if_true, if_false, not_true_eq_false, not_false_eq_true]
          exact w17 k4 x
      · refine ⟨r, r1, ?_, fun k4 x => ?_⟩
        · simp -implicitDefEqProofs (disch := omega) only [e_X7_isAsTold_10, e_X7_isAsTold_10__1, e_X7_isAsTold_10__2, e_X7_isAsTold_10__3, e_X7_isAsTold_10__4, e_X7_isAsTold_50, e_X7_isAsTold_50__1, sc_r49_0, sc_r49_1, sc_r49_2, sc_n50, sc_n51, sc_n52, e49, t1, t2, t3, z2, h01, wx_bd, wx_let, wx_st, wx_lit, wx_ga, wx_sa, pk_mul, nI_add, wx_le, wx_lt, wx_eq, wx_en, wx_ne', wx_nn, wx_ltn, wx_len, wx_nlt, wx_nle, wx_bz0, wx_bz1, if_pos, if_neg, wx_ite, Nat.reduceEqDiff, eq_self, if_true, if_false, not_true_eq_false, not_false_eq_true]
          exact r2
        · simp -implicitDefEqProofs (disch := omega) only [e_X12_whoseSet_17, e_X12_whoseSet_17__1, e_X12_whoseSet_17__2, e_X12_whoseSet_17__3, e_X12_whoseSet_17__4, e_X12_whoseSet_17__5, e_X12_whoseSet_61, e_X12_whoseSet_66, e_X12_whoseSet_66__1, e45, k2, z3, c1, h01, wx_bd, wx_let, wx_st, wx_lit, wx_ga, wx_sa, pk_mul, nI_add, wx_le, wx_lt, wx_eq, wx_en, wx_ne', wx_nn, wx_ltn, wx_len, wx_nlt, wx_nle, wx_bz0, wx_bz1, if_pos, if_neg, wx_ite, Nat.reduceEqDiff, eq_self, if_true, if_false, not_true_eq_false, not_false_eq_true]
          exact r3 k4 x
set_option maxHeartbeats 1000000 in
theorem wl_whose_l (h : wB nw nj nc σ 1 (τ 1) τ) (hN : wN nw nj nc τ) {N : Nat} (hN8 : N ≤ 8) (e49 : σ 49 3 = nI N) (e45 : τ 0 45 = nI N) (hT : ∀ i, i < N → σ 50 i = τ 24 i ∧ σ 51 i = τ 25 i ∧ σ 52 i = τ 26 i ∧ (∃ k, k < 4 ∧ τ 24 i = nI k) ∧ (τ 26 i = nI 0 ∨ τ 26 i = nI 1)) : ∀ d i n m M, i + d = nw → d < n → d < m → M < 2 ^ i → ∃ M', M' < 2 ^ nw ∧ f_X7_whoseSet_4 n 280 (nI M) (nI i) σ = some (nI M', σ) ∧ f_X12_whoseSet_4 m 0 (nI M) (nI i) τ = some (nI M', τ) := by
  obtain ⟨n1, n2, n3, n4, n5, n6⟩ := id hN
  intro d
  induction d with
  | zero =>
    intro i n m M hi hn hm hM
    obtain ⟨n, rfl⟩ : ∃ k, n = k + 1 := ⟨n - 1, by omega⟩
    obtain ⟨m, rfl⟩ : ∃ k, m = k + 1 := ⟨m - 1, by omega⟩
    obtain rfl : i = nw := by omega
    exact ⟨M, hM, by simp -implicitDefEqProofs (disch := omega) only [e_X7_whoseSet_4, e_X7_whoseSet_4__1, e_X7_whoseSet_4__2, wb_nw h, wx_bd, wx_let, wx_st, wx_lit, wx_ga, wx_sa, pk_mul, nI_add, wx_le, wx_lt, wx_eq, wx_en, wx_ne', wx_nn, wx_ltn, wx_len, wx_nlt, wx_nle, wx_bz0, wx_bz1, if_pos, if_neg, wx_ite, Nat.reduceEqDiff, eq_self, if_true, if_false, not_true_eq_false, not_false_eq_true], by simp -implicitDefEqProofs (disch := omega) only [e_X12_whoseSet_4, n4, wx_bd, wx_let, wx_st, wx_lit, wx_ga, wx_sa, pk_mul, nI_add, wx_le, wx_lt, wx_eq, wx_en, wx_ne', wx_nn, wx_ltn, wx_len, wx_nlt, wx_nle, wx_bz0, wx_bz1, if_pos, if_neg, wx_ite, Nat.reduceEqDiff, eq_self, if_true, if_false, not_true_eq_false, not_false_eq_true]⟩
  | succ d ih =>
    intro i n m M hi hn hm hM
    obtain ⟨n, rfl⟩ : ∃ k, n = k + 1 := ⟨n - 1, by omega⟩
    obtain ⟨m, rfl⟩ : ∃ k, m = k + 1 := ⟨m - 1, by omega⟩
    obtain ⟨z, z1, z2, z3⟩ := wl_asTold h hN (show i < nw by omega) hN8 e49 e45 hT N 0 wg_N wg_N (by omega) (by rw [wx_N]; omega) (by rw [wx_N]; omega)
    have es := wx_shl8 i (by omega)
    have hp2 : 2 ^ (i + 1) = 2 * 2 ^ i := by rw [Nat.pow_succ]; omega
    have hor : M ||| 2 ^ i < 2 ^ (i + 1) := Nat.or_lt_two_pow (by omega) (by omega)
    have hb : 2 ^ i ≤ 2 ^ 8 := Nat.pow_le_pow_right (by omega) (by omega)
    have ia : f_X7_isAsTold 280 (nI i) σ = some (nI z, σ) := by rw [e_X7_isAsTold]; exact z2
    rcases (show z = 0 ∨ z = 1 by omega) with rfl | rfl
    · obtain ⟨M', m1, m2, m3⟩ := ih (i + 1) n m M (by omega) (by omega) (by omega) (by omega)
      refine ⟨M', m1, ?_, ?_⟩
      · simp -implicitDefEqProofs (disch := omega) only [e_X7_whoseSet_4, e_X7_whoseSet_4__1, e_X7_whoseSet_4__2, e_X7_whoseSet_35, e_X7_whoseSet_35__1, wb_nw h, ia, wx_bd, wx_let, wx_st, wx_lit, wx_ga, wx_sa, pk_mul, nI_add, wx_le, wx_lt, wx_eq, wx_en, wx_ne', wx_nn, wx_ltn, wx_len, wx_nlt, wx_nle, wx_bz0, wx_bz1, if_pos, if_neg, wx_ite, Nat.reduceEqDiff, eq_self, if_true, if_false, not_true_eq_false, not_false_eq_true]
        exact m2
      · simp -implicitDefEqProofs (disch := omega) only [e_X12_whoseSet_4, n4, wx_bd, wx_let, wx_st, wx_lit, wx_ga, wx_sa, pk_mul, nI_add, wx_le, wx_lt, wx_eq, wx_en, wx_ne', wx_nn, wx_ltn, wx_len, wx_nlt, wx_nle, wx_bz0, wx_bz1, if_pos, if_neg, wx_ite, Nat.reduceEqDiff, eq_self, if_true, if_false, not_true_eq_false, not_false_eq_true]
        rw [z3]
        simp -implicitDefEqProofs (disch := omega) only [e_X12_whoseSet_82, e_X12_whoseSet_82__1, wx_bd, wx_let, wx_st, wx_lit, wx_ga, wx_sa, pk_mul, nI_add, wx_le, wx_lt, wx_eq, wx_en, wx_ne', wx_nn, wx_ltn, wx_len, wx_nlt, wx_nle, wx_bz0, wx_bz1, if_pos, if_neg, wx_ite, Nat.reduceEqDiff, eq_self, if_true, if_false, not_true_eq_false, not_false_eq_true]
        exact m3
    · obtain ⟨M', m1, m2, m3⟩ := ih (i + 1) n m (M ||| 2 ^ i) (by omega) (by omega) (by omega) hor
      refine ⟨M', m1, ?_, ?_⟩
      · simp -implicitDefEqProofs (disch := omega) only [e_X7_whoseSet_4, e_X7_whoseSet_4__1, e_X7_whoseSet_4__2, e_X7_whoseSet_35, e_X7_whoseSet_35__1, wb_nw h, ia, es, fa_or, wx_bd, wx_let, wx_st, wx_lit, wx_ga, wx_sa, pk_mul, nI_add, wx_le, wx_lt, wx_eq, wx_en, wx_ne', wx_nn, wx_ltn, wx_len, wx_nlt, wx_nle, wx_bz0, wx_bz1, if_pos, if_neg, wx_ite, Nat.reduceEqDiff, eq_self, if_true, if_false, not_true_eq_false, not_false_eq_true]
        exact m2
      · simp -implicitDefEqProofs (disch := omega) only [e_X12_whoseSet_4, n4, wx_bd, wx_let, wx_st, wx_lit, wx_ga, wx_sa, pk_mul, nI_add, wx_le, wx_lt, wx_eq, wx_en, wx_ne', wx_nn, wx_ltn, wx_len, wx_nlt, wx_nle, wx_bz0, wx_bz1, if_pos, if_neg, wx_ite, Nat.reduceEqDiff, eq_self, if_true, if_false, not_true_eq_false, not_false_eq_true]
        rw [z3]
        simp -implicitDefEqProofs (disch := omega) only [e_X12_whoseSet_82, e_X12_whoseSet_82__1, es, fa_or, wx_bd, wx_let, wx_st, wx_lit, wx_ga, wx_sa, pk_mul, nI_add, wx_le, wx_lt, wx_eq, wx_en, wx_ne', wx_nn, wx_ltn, wx_len, wx_nlt, wx_nle, wx_bz0, wx_bz1, if_pos, if_neg, wx_ite, Nat.reduceEqDiff, eq_self, if_true, if_false, not_true_eq_false, not_false_eq_true]
        exact m3
end WH

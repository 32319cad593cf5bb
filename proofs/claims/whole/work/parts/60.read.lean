/-! questions to the bench: loops of both sides at once -/
/-- how many of the first k -/
def wh_n (p : Nat → Bool) : Nat → Nat
  | 0 => 0
  | k + 1 => wh_n p k + (if p k = true then 1 else 0)
set_option maxHeartbeats 1000000 in
theorem wh_n_mono {p : Nat → Bool} {a b : Nat} (h : a ≤ b) : wh_n p a ≤ wh_n p b := by
  induction b with
  | zero => rw [show a = 0 by omega]; exact Nat.le_refl _
  | succ b ih =>
    rcases Nat.lt_or_ge a (b + 1) with q | q
    · have := ih (by omega)
      simp only [wh_n]; omega
    · rw [show a = b + 1 by omega]; exact Nat.le_refl _
set_option maxHeartbeats 1000000 in
theorem wh_n_le (p : Nat → Bool) (k : Nat) : wh_n p k ≤ k := by
  induction k with
  | zero => exact Nat.le_refl _
  | succ k ih => simp only [wh_n]; split <;> omega
section RD
variable {nw nj nc : Nat} {σ τ : wg_M}
set_option maxHeartbeats 1000000 in
theorem wl_wearer_l (h : wB nw nj nc σ 1 (τ 1) τ) (hN : wN nw nj nc τ) (w : Int32) : ∀ d i n m, i + d = nj → d < n → d < m → ∃ r, f_X2_wearer_2 n 11 w (nI i) σ = some (r, σ) ∧ f_X12_wearerOf_2 m 0 w (nI i) τ = some (r, τ) ∧ ((r = -nI 1 ∧ ∀ j, i ≤ j → j < nj → τ 1 (13 + j) - nI 1 ≠ w) ∨ ∃ j, i ≤ j ∧ j < nj ∧ r = nI j ∧ τ 1 (13 + j) - nI 1 = w) := by
  obtain ⟨n1, n2, n3, n4, n5, n6⟩ := hN
  intro d
  induction d with
  | zero =>
    intro i n m hi hn hm
    obtain ⟨n, rfl⟩ : ∃ k, n = k + 1 := ⟨n - 1, by omega⟩
    obtain ⟨m, rfl⟩ : ∃ k, m = k + 1 := ⟨m - 1, by omega⟩
    refine ⟨-nI 1, ?_, ?_, Or.inl ⟨rfl, fun j q1 q2 => by omega⟩⟩
    · simp -implicitDefEqProofs (disch := omega) only [e_X2_wearer_2, e_X2_wearer_2__1, e_X2_wearer_2__2, wb_nj h, wx_bd, wx_let, wx_st, wx_lit, wx_ga, wx_sa, pk_mul, nI_add, wx_le, wx_lt, wx_eq, wx_en, wx_ne', wx_nn, wx_ltn, wx_len, wx_nlt, wx_nle, wx_bz0, wx_bz1, if_pos, if_neg, wx_ite, Nat.reduceEqDiff, eq_self, if_true, if_false, not_true_eq_false, not_false_eq_true]
    · simp -implicitDefEqProofs (disch := omega) only [e_X12_wearerOf_2, e_X12_wearerOf_2__1, e_X12_wearerOf_2__2, n5, wx_bd, wx_let, wx_st, wx_lit, wx_ga, wx_sa, pk_mul, nI_add, wx_le, wx_lt, wx_eq, wx_en, wx_ne', wx_nn, wx_ltn, wx_len, wx_nlt, wx_nle, wx_bz0, wx_bz1, if_pos, if_neg, wx_ite, Nat.reduceEqDiff, eq_self, if_true, if_false, not_true_eq_false, not_false_eq_true]
  | succ d ih =>
    intro i n m hi hn hm
    obtain ⟨n, rfl⟩ : ∃ k, n = k + 1 := ⟨n - 1, by omega⟩
    obtain ⟨m, rfl⟩ : ∃ k, m = k + 1 := ⟨m - 1, by omega⟩
    by_cases c : τ 1 (13 + i) - nI 1 = w
    · refine ⟨nI i, ?_, ?_, Or.inr ⟨i, Nat.le_refl _, by omega, rfl, c⟩⟩
      · simp -implicitDefEqProofs (disch := omega) only [e_X2_wearer_2, e_X2_wearer_2__1, e_X2_wearer_2__2, wb_nj h, wb_worn h, c, wx_bd, wx_let, wx_st, wx_lit, wx_ga, wx_sa, pk_mul, nI_add, wx_le, wx_lt, wx_eq, wx_en, wx_ne', wx_nn, wx_ltn, wx_len, wx_nlt, wx_nle, wx_bz0, wx_bz1, if_pos, if_neg, wx_ite, Nat.reduceEqDiff, eq_self, if_true, if_false, not_true_eq_false, not_false_eq_true]
      · simp -implicitDefEqProofs (disch := omega) only [e_X12_wearerOf_2, e_X12_wearerOf_2__1, e_X12_wearerOf_2__2, e_X12_wigOf, e_X12_wigOf__1, n5, c, wx_bd, wx_let, wx_st, wx_lit, wx_ga, wx_sa, pk_mul, nI_add, wx_le, wx_lt, wx_eq, wx_en, wx_ne', wx_nn, wx_ltn, wx_len, wx_nlt, wx_nle, wx_bz0, wx_bz1, if_pos, if_neg, wx_ite, Nat.reduceEqDiff, eq_self, if_true, if_false, not_true_eq_false, not_false_eq_true]
    · obtain ⟨r, q1, q2, q3⟩ := ih (i + 1) n m (by omega) (by omega) (by omega)
      refine ⟨r, ?_, ?_, ?_⟩
      · simp -implicitDefEqProofs (disch := omega) only [e_X2_wearer_2, e_X2_wearer_2__1, e_X2_wearer_2__2, wb_nj h, wb_worn h, c, wx_bd, wx_let, wx_st, wx_lit, wx_ga, wx_sa, pk_mul, nI_add, wx_le, wx_lt, wx_eq, wx_en, wx_ne', wx_nn, wx_ltn, wx_len, wx_nlt, wx_nle, wx_bz0, wx_bz1, if_pos, if_neg, wx_ite, Nat.reduceEqDiff, eq_self, if_true, if_false, not_true_eq_false, not_false_eq_true]; exact q1
      · simp -implicitDefEqProofs (disch := omega) only [e_X12_wearerOf_2, e_X12_wearerOf_2__1, e_X12_wearerOf_2__2, e_X12_wigOf, e_X12_wigOf__1, n5, c, wx_bd, wx_let, wx_st, wx_lit, wx_ga, wx_sa, pk_mul, nI_add, wx_le, wx_lt, wx_eq, wx_en, wx_ne', wx_nn, wx_ltn, wx_len, wx_nlt, wx_nle, wx_bz0, wx_bz1, if_pos, if_neg, wx_ite, Nat.reduceEqDiff, eq_self, if_true, if_false, not_true_eq_false, not_false_eq_true]; exact q2
      · rcases q3 with ⟨q3, q4⟩ | ⟨j, q3, q4⟩
        · refine Or.inl ⟨q3, fun j p1 p2 => ?_⟩
          rcases Nat.lt_or_ge i j with p | p
          · exact q4 j (by omega) p2
          · rw [show j = i by omega]; exact c
        · exact Or.inr ⟨j, by omega, q4⟩
set_option maxHeartbeats 1000000 in
theorem wl_wearer (h : wB nw nj nc σ 1 (τ 1) τ) (hN : wN nw nj nc τ) (w : Int32) : ∃ r, f_X2_wearer 11 w σ = some (r, σ) ∧ f_X12_wearerOf 0 w τ = some (r, τ) ∧ ((r = -nI 1 ∧ ∀ j, j < nj → τ 1 (13 + j) - nI 1 ≠ w) ∨ ∃ j, j < nj ∧ r = nI j ∧ τ 1 (13 + j) - nI 1 = w) := by
  have hn := hN.2.1
  obtain ⟨r, q1, q2, q3⟩ := wl_wearer_l h hN w nj 0 wg_N wg_N (by omega) (by rw [wx_N]; omega) (by rw [wx_N]; omega)
  refine ⟨r, q1, q2, ?_⟩
  rcases q3 with ⟨q3, q4⟩ | ⟨j, -, q4⟩
  · exact Or.inl ⟨q3, fun j hj => q4 j (by omega) hj⟩
  · exact Or.inr ⟨j, q4⟩
set_option maxHeartbeats 1000000 in
theorem wl_alive (h : wB nw nj nc σ 1 (τ 1) τ) (hN : wN nw nj nc τ) {j : Nat} (hj : j < nj) : (τ 1 (23 + j) = nI 0 ∧ f_X2_lives 11 (nI j) σ = some (nI 1, σ) ∧ f_X12_isAlive 0 (nI j) τ = some (nI 1, τ)) ∨ (τ 1 (23 + j) = nI 1 ∧ f_X2_lives 11 (nI j) σ = some (nI 0, σ) ∧ f_X12_isAlive 0 (nI j) τ = some (nI 0, τ)) := by
  obtain ⟨n1, n2, n3, n4, n5, n6⟩ := hN
  rcases wb_deadc h hj with c | c
  · left
    refine ⟨c, ?_, ?_⟩
    · simp -implicitDefEqProofs (disch := omega) only [e_X2_lives, e_X2_lives__1, e_X2_lives__2, e_X2_has, wb_nj h, wb_dead h, c, wx_bd, wx_let, wx_st, wx_lit, wx_ga, wx_sa, pk_mul, nI_add, wx_le, wx_lt, wx_eq, wx_en, wx_ne', wx_nn, wx_ltn, wx_len, wx_nlt, wx_nle, wx_bz0, wx_bz1, if_pos, if_neg, wx_ite, Nat.reduceEqDiff, eq_self, if_true, if_false, not_true_eq_false, not_false_eq_true]
    · simp -implicitDefEqProofs (disch := omega) only [e_X12_isAlive, e_X12_isAlive__1, c, wx_bd, wx_let, wx_st, wx_lit, wx_ga, wx_sa, pk_mul, nI_add, wx_le, wx_lt, wx_eq, wx_en, wx_ne', wx_nn, wx_ltn, wx_len, wx_nlt, wx_nle, wx_bz0, wx_bz1, if_pos, if_neg, wx_ite, Nat.reduceEqDiff, eq_self, if_true, if_false, not_true_eq_false, not_false_eq_true]
  · right
    refine ⟨c, ?_, ?_⟩
    · simp -implicitDefEqProofs (disch := omega) only [e_X2_lives, e_X2_lives__1, e_X2_lives__2, e_X2_has, wb_nj h, wb_dead h, c, wx_bd, wx_let, wx_st, wx_lit, wx_ga, wx_sa, pk_mul, nI_add, wx_le, wx_lt, wx_eq, wx_en, wx_ne', wx_nn, wx_ltn, wx_len, wx_nlt, wx_nle, wx_bz0, wx_bz1, if_pos, if_neg, wx_ite, Nat.reduceEqDiff, eq_self, if_true, if_false, not_true_eq_false, not_false_eq_true]
    · simp -implicitDefEqProofs (disch := omega) only [e_X12_isAlive, e_X12_isAlive__1, c, wx_bd, wx_let, wx_st, wx_lit, wx_ga, wx_sa, pk_mul, nI_add, wx_le, wx_lt, wx_eq, wx_en, wx_ne', wx_nn, wx_ltn, wx_len, wx_nlt, wx_nle, wx_bz0, wx_bz1, if_pos, if_neg, wx_ite, Nat.reduceEqDiff, eq_self, if_true, if_false, not_true_eq_false, not_false_eq_true]
set_option maxHeartbeats 1000000 in
theorem wl_deadSet_l (h : wB nw nj nc σ 1 (τ 1) τ) (hN : wN nw nj nc τ) : ∀ d i n m a, i + d = nj → d < n → d < m → ∃ r, f_X2_deadSet_4 n 11 a (nI i) σ = some (r, σ) ∧ f_X12_deadSet_4 m 0 a (nI i) τ = some (r, τ) := by
  have hN' := hN
  obtain ⟨n1, n2, n3, n4, n5, n6⟩ := hN
  intro d
  induction d with
  | zero =>
    intro i n m a hi hn hm
    obtain ⟨n, rfl⟩ : ∃ k, n = k + 1 := ⟨n - 1, by omega⟩
    obtain ⟨m, rfl⟩ : ∃ k, m = k + 1 := ⟨m - 1, by omega⟩
    refine ⟨a, ?_, ?_⟩
    · simp -implicitDefEqProofs (disch := omega) only [e_X2_deadSet_4, e_X2_deadSet_4__1, e_X2_deadSet_4__2, e_X2_deadSet_4__3, wb_nj h, wx_bd, wx_let, wx_st, wx_lit, wx_ga, wx_sa, pk_mul, nI_add, wx_le, wx_lt, wx_eq, wx_en, wx_ne', wx_nn, wx_ltn, wx_len, wx_nlt, wx_nle, wx_bz0, wx_bz1, if_pos, if_neg, wx_ite, Nat.reduceEqDiff, eq_self, if_true, if_false, not_true_eq_false, not_false_eq_true]
    · simp -implicitDefEqProofs (disch := omega) only [e_X12_deadSet_4, e_X12_deadSet_4__1, e_X12_deadSet_4__2, n5, wx_bd, wx_let, wx_st, wx_lit, wx_ga, wx_sa, pk_mul, nI_add, wx_le, wx_lt, wx_eq, wx_en, wx_ne', wx_nn, wx_ltn, wx_len, wx_nlt, wx_nle, wx_bz0, wx_bz1, if_pos, if_neg, wx_ite, Nat.reduceEqDiff, eq_self, if_true, if_false, not_true_eq_false, not_false_eq_true]
  | succ d ih =>
    intro i n m a hi hn hm
    obtain ⟨n, rfl⟩ : ∃ k, n = k + 1 := ⟨n - 1, by omega⟩
    obtain ⟨m, rfl⟩ : ∃ k, m = k + 1 := ⟨m - 1, by omega⟩
    have hij : i < nj := by omega
    rcases wl_alive h hN' hij with ⟨c, -, c2⟩ | ⟨c, -, c2⟩
    · obtain ⟨r, q1, q2⟩ := ih (i + 1) n m a (by omega) (by omega) (by omega)
      refine ⟨r, ?_, ?_⟩
      · have e0 : a ||| (nI 0 <<< nI i) = a := by
          rw [show nI 0 <<< nI i = nI 0 from Int32.zero_shiftLeft, show nI 0 = 0 from rfl, Int32.or_zero]
        simp -implicitDefEqProofs (disch := omega) only [e_X2_deadSet_4, e_X2_deadSet_4__1, e_X2_deadSet_4__2, e_X2_deadSet_4__3, wb_nj h, wb_dead h, c, wx_and31, e0, wx_bd, wx_let, wx_st, wx_lit, wx_ga, wx_sa, pk_mul, nI_add, wx_le, wx_lt, wx_eq, wx_en, wx_ne', wx_nn, wx_ltn, wx_len, wx_nlt, wx_nle, wx_bz0, wx_bz1, if_pos, if_neg, wx_ite, Nat.reduceEqDiff, eq_self, if_true, if_false, not_true_eq_false, not_false_eq_true]; exact q1
      · simp -implicitDefEqProofs (disch := omega) only [e_X12_deadSet_4, e_X12_deadSet_4__1, e_X12_deadSet_4__2, e_X12_deadSet_26, e_X12_deadSet_26__1, n5, c2, wx_bd, wx_let, wx_st, wx_lit, wx_ga, wx_sa, pk_mul, nI_add, wx_le, wx_lt, wx_eq, wx_en, wx_ne', wx_nn, wx_ltn, wx_len, wx_nlt, wx_nle, wx_bz0, wx_bz1, if_pos, if_neg, wx_ite, Nat.reduceEqDiff, eq_self, if_true, if_false, not_true_eq_false, not_false_eq_true]; exact q2
    · obtain ⟨r, q1, q2⟩ := ih (i + 1) n m (a ||| (nI 1 <<< nI i)) (by omega) (by omega) (by omega)
      refine ⟨r, ?_, ?_⟩
      · simp -implicitDefEqProofs (disch := omega) only [e_X2_deadSet_4, e_X2_deadSet_4__1, e_X2_deadSet_4__2, e_X2_deadSet_4__3, wb_nj h, wb_dead h, c, wx_and31, wx_bd, wx_let, wx_st, wx_lit, wx_ga, wx_sa, pk_mul, nI_add, wx_le, wx_lt, wx_eq, wx_en, wx_ne', wx_nn, wx_ltn, wx_len, wx_nlt, wx_nle, wx_bz0, wx_bz1, if_pos, if_neg, wx_ite, Nat.reduceEqDiff, eq_self, if_true, if_false, not_true_eq_false, not_false_eq_true]; exact q1
      · simp -implicitDefEqProofs (disch := omega) only [e_X12_deadSet_4, e_X12_deadSet_4__1, e_X12_deadSet_4__2, e_X12_deadSet_26, e_X12_deadSet_26__1, n5, c2, wx_and31, wx_bd, wx_let, wx_st, wx_lit, wx_ga, wx_sa, pk_mul, nI_add, wx_le, wx_lt, wx_eq, wx_en, wx_ne', wx_nn, wx_ltn, wx_len, wx_nlt, wx_nle, wx_bz0, wx_bz1, if_pos, if_neg, wx_ite, Nat.reduceEqDiff, eq_self, if_true, if_false, not_true_eq_false, not_false_eq_true]; exact q2
set_option maxHeartbeats 1000000 in
theorem wl_deadSet (h : wB nw nj nc σ 1 (τ 1) τ) (hN : wN nw nj nc τ) : ∃ r, f_X2_deadSet 11 σ = some (r, σ) ∧ f_X12_deadSet 0 τ = some (r, τ) :=
  wl_deadSet_l h hN nj 0 wg_N wg_N 0 (by omega) (by have := hN.2.1; rw [wx_N]; omega) (by have := hN.2.1; rw [wx_N]; omega)
set_option maxHeartbeats 1000000 in
theorem wl_openSet_l (h : wB nw nj nc σ 1 (τ 1) τ) (hN : wN nw nj nc τ) : ∀ d i n m a, i + d = nc → d < n → d < m → ∃ r, f_X0_openSet_4 n 1 a (nI i) σ = some (r, σ) ∧ f_X12_openSet_4 m 0 a (nI i) τ = some (r, τ) := by
  obtain ⟨n1, n2, n3, n4, n5, n6⟩ := hN
  intro d
  induction d with
  | zero =>
    intro i n m a hi hn hm
    obtain ⟨n, rfl⟩ : ∃ k, n = k + 1 := ⟨n - 1, by omega⟩
    obtain ⟨m, rfl⟩ : ∃ k, m = k + 1 := ⟨m - 1, by omega⟩
    refine ⟨a, ?_, ?_⟩
    · simp -implicitDefEqProofs (disch := omega) only [e_X0_openSet_4, e_X0_openSet_4__1, e_X0_openSet_4__2, wb_nc h, wx_bd, wx_let, wx_st, wx_lit, wx_ga, wx_sa, pk_mul, nI_add, wx_le, wx_lt, wx_eq, wx_en, wx_ne', wx_nn, wx_ltn, wx_len, wx_nlt, wx_nle, wx_bz0, wx_bz1, if_pos, if_neg, wx_ite, Nat.reduceEqDiff, eq_self, if_true, if_false, not_true_eq_false, not_false_eq_true]
    · simp -implicitDefEqProofs (disch := omega) only [e_X12_openSet_4, e_X12_openSet_4__1, e_X12_openSet_4__2, n6, wx_bd, wx_let, wx_st, wx_lit, wx_ga, wx_sa, pk_mul, nI_add, wx_le, wx_lt, wx_eq, wx_en, wx_ne', wx_nn, wx_ltn, wx_len, wx_nlt, wx_nle, wx_bz0, wx_bz1, if_pos, if_neg, wx_ite, Nat.reduceEqDiff, eq_self, if_true, if_false, not_true_eq_false, not_false_eq_true]
  | succ d ih =>
    intro i n m a hi hn hm
    obtain ⟨n, rfl⟩ : ∃ k, n = k + 1 := ⟨n - 1, by omega⟩
    obtain ⟨m, rfl⟩ : ∃ k, m = k + 1 := ⟨m - 1, by omega⟩
    have hij : i < nc := by omega
    have hv := wV_0 (wb_verdict h hij)
    by_cases c : τ 1 (267 + i) = nI 0
    · obtain ⟨r, q1, q2⟩ := ih (i + 1) n m (a ||| (nI 1 <<< nI i)) (by omega) (by omega) (by omega)
      refine ⟨r, ?_, ?_⟩
      · simp -implicitDefEqProofs (disch := omega) only [e_X0_openSet_4, e_X0_openSet_4__1, e_X0_openSet_4__2, e_X0_openSet_30, e_X0_openSet_30__1, wb_nc h, hv, c, wx_and31, wx_bd, wx_let, wx_st, wx_lit, wx_ga, wx_sa, pk_mul, nI_add, wx_le, wx_lt, wx_eq, wx_en, wx_ne', wx_nn, wx_ltn, wx_len, wx_nlt, wx_nle, wx_bz0, wx_bz1, if_pos, if_neg, wx_ite, Nat.reduceEqDiff, eq_self, if_true, if_false, not_true_eq_false, not_false_eq_true]; exact q1
      · simp -implicitDefEqProofs (disch := omega) only [e_X12_openSet_4, e_X12_openSet_4__1, e_X12_openSet_4__2, e_X12_openSet_31, e_X12_openSet_31__1, n6, c, wx_and31, wx_bd, wx_let, wx_st, wx_lit, wx_ga, wx_sa, pk_mul, nI_add, wx_le, wx_lt, wx_eq, wx_en, wx_ne', wx_nn, wx_ltn, wx_len, wx_nlt, wx_nle, wx_bz0, wx_bz1, if_pos, if_neg, wx_ite, Nat.reduceEqDiff, eq_self, if_true, if_false, not_true_eq_false, not_false_eq_true]; exact q2
    · obtain ⟨r, q1, q2⟩ := ih (i + 1) n m a (by omega) (by omega) (by omega)
      refine ⟨r, ?_, ?_⟩
      · simp -implicitDefEqProofs (disch := omega) only [e_X0_openSet_4, e_X0_openSet_4__1, e_X0_openSet_4__2, e_X0_openSet_30, e_X0_openSet_30__1, wb_nc h, hv, c, wx_and31, wx_bd, wx_let, wx_st, wx_lit, wx_ga, wx_sa, pk_mul, nI_add, wx_le, wx_lt, wx_eq, wx_en, wx_ne', wx_nn, wx_ltn, wx_len, wx_nlt, wx_nle, wx_bz0, wx_bz1, if_pos, if_neg, wx_ite, Nat.reduceEqDiff, eq_self, if_true, if_false, not_true_eq_false, not_false_eq_true]; exact q1
      · simp -implicitDefEqProofs (disch := omega) only [e_X12_openSet_4, e_X12_openSet_4__1, e_X12_openSet_4__2, e_X12_openSet_31, e_X12_openSet_31__1, n6, c, wx_and31, wx_bd, wx_let, wx_st, wx_lit, wx_ga, wx_sa, pk_mul, nI_add, wx_le, wx_lt, wx_eq, wx_en, wx_ne', wx_nn, wx_ltn, wx_len, wx_nlt, wx_nle, wx_bz0, wx_bz1, if_pos, if_neg, wx_ite, Nat.reduceEqDiff, eq_self, if_true, if_false, not_true_eq_false, not_false_eq_true]; exact q2
set_option maxHeartbeats 1000000 in
theorem wl_openSet (h : wB nw nj nc σ 1 (τ 1) τ) (hN : wN nw nj nc τ) : ∃ r, f_X0_openSet 1 σ = some (r, σ) ∧ f_X12_openSet 0 τ = some (r, τ) :=
  wl_openSet_l h hN nc 0 wg_N wg_N 0 (by omega) (by have := hN.2.2.1; rw [wx_N]; omega) (by have := hN.2.2.1; rw [wx_N]; omega)
set_option maxHeartbeats 1000000 in
theorem wl_rulesFor_l (hN : wN nw nj nc τ) {w k : Nat} (hw : w < nw) (hk : τ 1 (67 + w) = nI k) (hk8 : k ≤ 8) (x : Int32) : ∀ d i m, i + d = k → d < m → f_X12_rulesFor_5 m 0 (nI w) x (nI (wh_n (fun i => decide (τ 1 (75 + 24 * w + 3 * i) = x)) i)) (nI i) τ = some (nI (wh_n (fun i => decide (τ 1 (75 + 24 * w + 3 * i) = x)) k), τ) := by
  obtain ⟨n1, n2, n3, n4, n5, n6⟩ := hN
  intro d
  induction d with
  | zero =>
    intro i m hi hm
    obtain ⟨m, rfl⟩ : ∃ k, m = k + 1 := ⟨m - 1, by omega⟩
    simp -implicitDefEqProofs (disch := omega) only [e_X12_rulesFor_5, e_X12_rulesFor_5__1, e_X12_rulesFor_5__2, e_X12_rulesFor_5__3, e_X12_rulesFor_5__4, hk, wx_bd, wx_let, wx_st, wx_lit, wx_ga, wx_sa, pk_mul, nI_add, wx_le, wx_lt, wx_eq, wx_en, wx_ne', wx_nn, wx_ltn, wx_len, wx_nlt, wx_nle, wx_bz0, wx_bz1, if_pos, if_neg, wx_ite, Nat.reduceEqDiff, eq_self, if_true, if_false, not_true_eq_false, not_false_eq_true]
    rw [show i = k by omega]
  | succ d ih =>
    intro i m hi hm
    obtain ⟨m, rfl⟩ : ∃ k, m = k + 1 := ⟨m - 1, by omega⟩
    have q := ih (i + 1) m (by omega) (by omega)
    by_cases c : τ 1 (75 + 24 * w + 3 * i) = x
    · simp only [wh_n, c, decide_true, if_true] at q
      simp -implicitDefEqProofs (disch := omega) only [e_X12_rulesFor_5, e_X12_rulesFor_5__1, e_X12_rulesFor_5__2, e_X12_rulesFor_5__3, e_X12_rulesFor_5__4, e_X12_rulesFor_39, e_X12_rulesFor_39__1, e_X12_ruleAt, hk, c, wx_bd, wx_let, wx_st, wx_lit, wx_ga, wx_sa, pk_mul, nI_add, wx_le, wx_lt, wx_eq, wx_en, wx_ne', wx_nn, wx_ltn, wx_len, wx_nlt, wx_nle, wx_bz0, wx_bz1, if_pos, if_neg, wx_ite, Nat.reduceEqDiff, eq_self, if_true, if_false, not_true_eq_false, not_false_eq_true]
      exact q
    · simp only [wh_n, c, decide_false, Bool.false_eq_true, if_false, Nat.add_zero] at q
      simp -implicitDefEqProofs (disch := omega) only [e_X12_rulesFor_5, e_X12_rulesFor_5__1, e_X12_rulesFor_5__2, e_X12_rulesFor_5__3, e_X12_rulesFor_5__4, e_X12_rulesFor_39, e_X12_rulesFor_39__1, e_X12_ruleAt, hk, c, wx_bd, wx_let, wx_st, wx_lit, wx_ga, wx_sa, pk_mul, nI_add, wx_le, wx_lt, wx_eq, wx_en, wx_ne', wx_nn, wx_ltn, wx_len, wx_nlt, wx_nle, wx_bz0, wx_bz1, if_pos, if_neg, wx_ite, Nat.reduceEqDiff, eq_self, if_true, if_false, not_true_eq_false, not_false_eq_true]
      exact q
set_option maxHeartbeats 1000000 in
theorem wl_rulesFor (hN : wN nw nj nc τ) {w k : Nat} (hw : w < nw) (hk : τ 1 (67 + w) = nI k) (hk8 : k ≤ 8) (x : Int32) : f_X12_rulesFor 0 (nI w) x τ = some (nI (wh_n (fun i => decide (τ 1 (75 + 24 * w + 3 * i) = x)) k), τ) :=
  wl_rulesFor_l hN hw hk hk8 x k 0 wg_N (by omega) (by rw [wx_N]; omega)
set_option maxHeartbeats 1000000 in
theorem wl_knows_l (h : wB nw nj nc σ 1 (τ 1) τ) (hN : wN nw nj nc τ) {w k : Nat} (hw : w < nw) (hk : τ 1 (67 + w) = nI k) (hk8 : k ≤ 8) (x : Int32) : ∀ d i n, i + d = k → wh_n (fun i => decide (τ 1 (75 + 24 * w + 3 * i) = x)) i = 0 → d < n → f_X9_knows_2 n 2 (nI w) x (nI i) σ = some (if wh_n (fun i => decide (τ 1 (75 + 24 * w + 3 * i) = x)) k = 0 then nI 0 else nI 1, σ) := by
  obtain ⟨n1, n2, n3, n4, n5, n6⟩ := hN
  intro d
  induction d with
  | zero =>
    intro i n hi hs hn
    obtain ⟨n, rfl⟩ : ∃ k, n = k + 1 := ⟨n - 1, by omega⟩
    obtain rfl : i = k := by omega
    simp -implicitDefEqProofs (disch := omega) only [e_X9_knows_2, e_X9_knows_2__1, e_X9_knows_2__2, e_X9_knows_2__3, wb_rules h, hk, hs, wx_bd, wx_let, wx_st, wx_lit, wx_ga, wx_sa, pk_mul, nI_add, wx_le, wx_lt, wx_eq, wx_en, wx_ne', wx_nn, wx_ltn, wx_len, wx_nlt, wx_nle, wx_bz0, wx_bz1, if_pos, if_neg, wx_ite, Nat.reduceEqDiff, eq_self, if_true, if_false, not_true_eq_false, not_false_eq_true]
  | succ d ih =>
    intro i n hi hs hn
    obtain ⟨n, rfl⟩ : ∃ k, n = k + 1 := ⟨n - 1, by omega⟩
    have e0 := wb_cause h hw hk hk8 (show i < k by omega)
    by_cases c : τ 1 (75 + 24 * w + 3 * i) = x
    · have : 0 < wh_n (fun i => decide (τ 1 (75 + 24 * w + 3 * i) = x)) k := by
        have h1 := wh_n_mono (p := fun i => decide (τ 1 (75 + 24 * w + 3 * i) = x)) (show i + 1 ≤ k by omega)
        simp only [wh_n, c, decide_true, if_true] at h1
        omega
      rw [if_neg (by omega)]
      simp -implicitDefEqProofs (disch := omega) only [e_X9_knows_2, e_X9_knows_2__1, e_X9_knows_2__2, e_X9_knows_2__3, wb_rules h, hk, e0, c, wx_bd, wx_let, wx_st, wx_lit, wx_ga, wx_sa, pk_mul, nI_add, wx_le, wx_lt, wx_eq, wx_en, wx_ne', wx_nn, wx_ltn, wx_len, wx_nlt, wx_nle, wx_bz0, wx_bz1, if_pos, if_neg, wx_ite, Nat.reduceEqDiff, eq_self, if_true, if_false, not_true_eq_false, not_false_eq_true]
    · have q := ih (i + 1) n (by omega) (by simp only [wh_n, c, decide_false, Bool.false_eq_true, if_false, hs]) (by omega)
      simp -implicitDefEqProofs (disch := omega) only [e_X9_knows_2, e_X9_knows_2__1, e_X9_knows_2__2, e_X9_knows_2__3, wb_rules h, hk, e0, c, wx_bd, wx_let, wx_st, wx_lit, wx_ga, wx_sa, pk_mul, nI_add, wx_le, wx_lt, wx_eq, wx_en, wx_ne', wx_nn, wx_ltn, wx_len, wx_nlt, wx_nle, wx_bz0, wx_bz1, if_pos, if_neg, wx_ite, Nat.reduceEqDiff, eq_self, if_true, if_false, not_true_eq_false, not_false_eq_true]
      exact q
set_option maxHeartbeats 1000000 in
theorem wl_knows (h : wB nw nj nc σ 1 (τ 1) τ) (hN : wN nw nj nc τ) {w k : Nat} (hw : w < nw) (hk : τ 1 (67 + w) = nI k) (hk8 : k ≤ 8) (x : Int32) : f_X9_knows 2 (nI w) x σ = some (if wh_n (fun i => decide (τ 1 (75 + 24 * w + 3 * i) = x)) k = 0 then nI 0 else nI 1, σ) :=
  wl_knows_l h hN hw hk hk8 x k 0 wg_N (by omega) rfl (by rw [wx_N]; omega)
set_option maxHeartbeats 1000000 in
theorem wl_rulingsOn_l (h : wB nw nj nc σ 1 (τ 1) τ) (hN : wN nw nj nc τ) {w k : Nat} (hw : w < nw) (hk : τ 1 (67 + w) = nI k) (hk8 : k ≤ 8) (x : Int32) : ∀ d i n m a, i + d = k → d < n → d < m → ∃ r, f_X9_rulingsOn_5 n 2 (nI w) x a (nI i) σ = some (r, σ) ∧ f_X12_rulingFor_5 m 0 (nI w) x a (nI i) τ = some (r, τ) := by
  obtain ⟨n1, n2, n3, n4, n5, n6⟩ := hN
  intro d
  induction d with
  | zero =>
    intro i n m a hi hn hm
    obtain ⟨n, rfl⟩ : ∃ k, n = k + 1 := ⟨n - 1, by omega⟩
    obtain ⟨m, rfl⟩ : ∃ k, m = k + 1 := ⟨m - 1, by omega⟩
    refine ⟨a, ?_, ?_⟩
    · simp -implicitDefEqProofs (disch := omega) only [e_X9_rulingsOn_5, e_X9_rulingsOn_5__1, e_X9_rulingsOn_5__2, e_X9_rulingsOn_5__3, e_X9_rulingsOn_5__4, wb_rules h, hk, wx_bd, wx_let, wx_st, wx_lit, wx_ga, wx_sa, pk_mul, nI_add, wx_le, wx_lt, wx_eq, wx_en, wx_ne', wx_nn, wx_ltn, wx_len, wx_nlt, wx_nle, wx_bz0, wx_bz1, if_pos, if_neg, wx_ite, Nat.reduceEqDiff, eq_self, if_true, if_false, not_true_eq_false, not_false_eq_true]
    · simp -implicitDefEqProofs (disch := omega) only [e_X12_rulingFor_5, e_X12_rulingFor_5__1, e_X12_rulingFor_5__2, e_X12_rulingFor_5__3, e_X12_rulingFor_5__4, e_X12_rulingFor_5__5, e_X12_rulingFor_5__6, hk, wx_bd, wx_let, wx_st, wx_lit, wx_ga, wx_sa, pk_mul, nI_add, wx_le, wx_lt, wx_eq, wx_en, wx_ne', wx_nn, wx_ltn, wx_len, wx_nlt, wx_nle, wx_bz0, wx_bz1, if_pos, if_neg, wx_ite, Nat.reduceEqDiff, eq_self, if_true, if_false, not_true_eq_false, not_false_eq_true]
  | succ d ih =>
    intro i n m a hi hn hm
    obtain ⟨n, rfl⟩ : ∃ k, n = k + 1 := ⟨n - 1, by omega⟩
    obtain ⟨m, rfl⟩ : ∃ k, m = k + 1 := ⟨m - 1, by omega⟩
    have e0 := wb_cause h hw hk hk8 (show i < k by omega)
    have e1 := wb_ruling h hw hk hk8 (show i < k by omega)
    by_cases c : τ 1 (75 + 24 * w + 3 * i) = x
    · obtain ⟨r, q1, q2⟩ := ih (i + 1) n m (a + τ 1 (75 + 24 * w + 3 * i + 1)) (by omega) (by omega) (by omega)
      refine ⟨r, ?_, ?_⟩
      · simp -implicitDefEqProofs (disch := omega) only [e_X9_rulingsOn_5, e_X9_rulingsOn_5__1, e_X9_rulingsOn_5__2, e_X9_rulingsOn_5__3, e_X9_rulingsOn_5__4, e_X9_rulingsOn_47, e_X9_rulingsOn_47__1, wb_rules h, hk, e0, e1, c, wx_bd, wx_let, wx_st, wx_lit, wx_ga, wx_sa, pk_mul, nI_add, wx_le, wx_lt, wx_eq, wx_en, wx_ne', wx_nn, wx_ltn, wx_len, wx_nlt, wx_nle, wx_bz0, wx_bz1, if_pos, if_neg, wx_ite, Nat.reduceEqDiff, eq_self, if_true, if_false, not_true_eq_false, not_false_eq_true]; exact q1
      · simp -implicitDefEqProofs (disch := omega) only [e_X12_rulingFor_5, e_X12_rulingFor_5__1, e_X12_rulingFor_5__2, e_X12_rulingFor_5__3, e_X12_rulingFor_5__4, e_X12_rulingFor_5__5, e_X12_rulingFor_5__6, e_X12_rulingFor_52, e_X12_rulingFor_52__1, e_X12_ruleAt, hk, c, wx_bd, wx_let, wx_st, wx_lit, wx_ga, wx_sa, pk_mul, nI_add, wx_le, wx_lt, wx_eq, wx_en, wx_ne', wx_nn, wx_ltn, wx_len, wx_nlt, wx_nle, wx_bz0, wx_bz1, if_pos, if_neg, wx_ite, Nat.reduceEqDiff, eq_self, if_true, if_false, not_true_eq_false, not_false_eq_true]; exact q2
    · obtain ⟨r, q1, q2⟩ := ih (i + 1) n m a (by omega) (by omega) (by omega)
      refine ⟨r, ?_, ?_⟩
      · simp -implicitDefEqProofs (disch := omega) only [e_X9_rulingsOn_5, e_X9_rulingsOn_5__1, e_X9_rulingsOn_5__2, e_X9_rulingsOn_5__3, e_X9_rulingsOn_5__4, e_X9_rulingsOn_47, e_X9_rulingsOn_47__1, wb_rules h, hk, e0, c, wx_bd, wx_let, wx_st, wx_lit, wx_ga, wx_sa, pk_mul, nI_add, wx_le, wx_lt, wx_eq, wx_en, wx_ne', wx_nn, wx_ltn, wx_len, wx_nlt, wx_nle, wx_bz0, wx_bz1, if_pos, if_neg, wx_ite, Nat.reduceEqDiff, eq_self, if_true, if_false, not_true_eq_false, not_false_eq_true]; exact q1
      · simp -implicitDefEqProofs (disch := omega) only [e_X12_rulingFor_5, e_X12_rulingFor_5__1, e_X12_rulingFor_5__2, e_X12_rulingFor_5__3, e_X12_rulingFor_5__4, e_X12_rulingFor_5__5, e_X12_rulingFor_5__6, e_X12_rulingFor_52, e_X12_rulingFor_52__1, e_X12_ruleAt, hk, c, wx_bd, wx_let, wx_st, wx_lit, wx_ga, wx_sa, pk_mul, nI_add, wx_le, wx_lt, wx_eq, wx_en, wx_ne', wx_nn, wx_ltn, wx_len, wx_nlt, wx_nle, wx_bz0, wx_bz1, if_pos, if_neg, wx_ite, Nat.reduceEqDiff, eq_self, if_true, if_false, not_true_eq_false, not_false_eq_true]; exact q2
set_option maxHeartbeats 1000000 in
theorem wl_rulingsOn (h : wB nw nj nc σ 1 (τ 1) τ) (hN : wN nw nj nc τ) {w : Nat} (hw : w < nw) (x : Int32) : ∃ r, f_X9_rulingsOn 2 (nI w) x σ = some (r, σ) ∧ f_X12_rulingFor 0 (nI w) x τ = some (r, τ) := by
  obtain ⟨k, k1, k2, -⟩ := wb_k h hw
  exact wl_rulingsOn_l h hN hw k2 k1 x k 0 wg_N wg_N 0 (by omega) (by rw [wx_N]; omega) (by rw [wx_N]; omega)
set_option maxHeartbeats 1000000 in
theorem wl_hairOf_l (h : wB nw nj nc σ 1 (τ 1) τ) (hN : wN nw nj nc τ) (x : Int32) : ∀ d i n m a, i + d = nw → d < n → d < m → ∃ r, f_X9_hairOf_4 n 2 x a (nI i) σ = some (r, σ) ∧ f_X12_hairOf_4 m 0 x a (nI i) τ = some (r, τ) := by
  obtain ⟨n1, n2, n3, n4, n5, n6⟩ := hN
  intro d
  induction d with
  | zero =>
    intro i n m a hi hn hm
    obtain ⟨n, rfl⟩ : ∃ k, n = k + 1 := ⟨n - 1, by omega⟩
    obtain ⟨m, rfl⟩ : ∃ k, m = k + 1 := ⟨m - 1, by omega⟩
    refine ⟨a, ?_, ?_⟩
    · simp -implicitDefEqProofs (disch := omega) only [e_X9_hairOf_4, e_X9_hairOf_4__1, e_X9_hairOf_4__2, wb_nw h, wx_bd, wx_let, wx_st, wx_lit, wx_ga, wx_sa, pk_mul, nI_add, wx_le, wx_lt, wx_eq, wx_en, wx_ne', wx_nn, wx_ltn, wx_len, wx_nlt, wx_nle, wx_bz0, wx_bz1, if_pos, if_neg, wx_ite, Nat.reduceEqDiff, eq_self, if_true, if_false, not_true_eq_false, not_false_eq_true]
    · simp -implicitDefEqProofs (disch := omega) only [e_X12_hairOf_4, e_X12_hairOf_4__1, e_X12_hairOf_4__2, e_X12_hairOf_4__3, n4, wx_bd, wx_let, wx_st, wx_lit, wx_ga, wx_sa, pk_mul, nI_add, wx_le, wx_lt, wx_eq, wx_en, wx_ne', wx_nn, wx_ltn, wx_len, wx_nlt, wx_nle, wx_bz0, wx_bz1, if_pos, if_neg, wx_ite, Nat.reduceEqDiff, eq_self, if_true, if_false, not_true_eq_false, not_false_eq_true]
  | succ d ih =>
    intro i n m a hi hn hm
    obtain ⟨n, rfl⟩ : ∃ k, n = k + 1 := ⟨n - 1, by omega⟩
    obtain ⟨m, rfl⟩ : ∃ k, m = k + 1 := ⟨m - 1, by omega⟩
    have hij : i < nw := by omega
    by_cases c : (x >>> (nI i &&& nI 31)) &&& nI 1 = nI 1
    · obtain ⟨r, q1, q2⟩ := ih (i + 1) n m (a + τ 1 (43 + i)) (by omega) (by omega) (by omega)
      refine ⟨r, ?_, ?_⟩
      · simp -implicitDefEqProofs (disch := omega) only [e_X9_hairOf_4, e_X9_hairOf_4__1, e_X9_hairOf_4__2, e_X9_hairOf_30, e_X9_hairOf_30__1, wb_nw h, wb_hair h, c, wx_bd, wx_let, wx_st, wx_lit, wx_ga, wx_sa, pk_mul, nI_add, wx_le, wx_lt, wx_eq, wx_en, wx_ne', wx_nn, wx_ltn, wx_len, wx_nlt, wx_nle, wx_bz0, wx_bz1, if_pos, if_neg, wx_ite, Nat.reduceEqDiff, eq_self, if_true, if_false, not_true_eq_false, not_false_eq_true]; exact q1
      · simp -implicitDefEqProofs (disch := omega) only [e_X12_hairOf_4, e_X12_hairOf_4__1, e_X12_hairOf_4__2, e_X12_hairOf_4__3, e_X12_hairOf_33, e_X12_hairOf_33__1, e_X12_has, n4, c, wx_bd, wx_let, wx_st, wx_lit, wx_ga, wx_sa, pk_mul, nI_add, wx_le, wx_lt, wx_eq, wx_en, wx_ne', wx_nn, wx_ltn, wx_len, wx_nlt, wx_nle, wx_bz0, wx_bz1, if_pos, if_neg, wx_ite, Nat.reduceEqDiff, eq_self, if_true, if_false, not_true_eq_false, not_false_eq_true]; exact q2
    · obtain ⟨r, q1, q2⟩ := ih (i + 1) n m a (by omega) (by omega) (by omega)
      refine ⟨r, ?_, ?_⟩
      · simp -implicitDefEqProofs (disch := omega) only [e_X9_hairOf_4, e_X9_hairOf_4__1, e_X9_hairOf_4__2, e_X9_hairOf_30, e_X9_hairOf_30__1, wb_nw h, wb_hair h, c, wx_bd, wx_let, wx_st, wx_lit, wx_ga, wx_sa, pk_mul, nI_add, wx_le, wx_lt, wx_eq, wx_en, wx_ne', wx_nn, wx_ltn, wx_len, wx_nlt, wx_nle, wx_bz0, wx_bz1, if_pos, if_neg, wx_ite, Nat.reduceEqDiff, eq_self, if_true, if_false, not_true_eq_false, not_false_eq_true]; exact q1
      · simp -implicitDefEqProofs (disch := omega) only [e_X12_hairOf_4, e_X12_hairOf_4__1, e_X12_hairOf_4__2, e_X12_hairOf_4__3, e_X12_hairOf_33, e_X12_hairOf_33__1, e_X12_has, n4, c, wx_bd, wx_let, wx_st, wx_lit, wx_ga, wx_sa, pk_mul, nI_add, wx_le, wx_lt, wx_eq, wx_en, wx_ne', wx_nn, wx_ltn, wx_len, wx_nlt, wx_nle, wx_bz0, wx_bz1, if_pos, if_neg, wx_ite, Nat.reduceEqDiff, eq_self, if_true, if_false, not_true_eq_false, not_false_eq_true]; exact q2
set_option maxHeartbeats 1000000 in
theorem wl_hairOf (h : wB nw nj nc σ 1 (τ 1) τ) (hN : wN nw nj nc τ) (x : Int32) : ∃ r, f_X9_hairOf 2 x σ = some (r, σ) ∧ f_X12_hairOf 0 x τ = some (r, τ) :=
  wl_hairOf_l h hN x nw 0 wg_N wg_N 0 (by omega) (by have := hN.1; rw [wx_N]; omega) (by have := hN.1; rw [wx_N]; omega)
set_option maxHeartbeats 1000000 in
theorem wl_worthOf_l (h : wB nw nj nc σ 1 (τ 1) τ) (hN : wN nw nj nc τ) (x : Int32) : ∀ d i n m a, i + d = nw → d < n → d < m → ∃ r, f_X9_worthOf_4 n 2 x a (nI i) σ = some (r, σ) ∧ f_X12_savedBy_4 m 0 x a (nI i) τ = some (r, τ) := by
  obtain ⟨n1, n2, n3, n4, n5, n6⟩ := hN
  intro d
  induction d with
  | zero =>
    intro i n m a hi hn hm
    obtain ⟨n, rfl⟩ : ∃ k, n = k + 1 := ⟨n - 1, by omega⟩
    obtain ⟨m, rfl⟩ : ∃ k, m = k + 1 := ⟨m - 1, by omega⟩
    refine ⟨a, ?_, ?_⟩
    · simp -implicitDefEqProofs (disch := omega) only [e_X9_worthOf_4, e_X9_worthOf_4__1, e_X9_worthOf_4__2, wb_nw h, wx_bd, wx_let, wx_st, wx_lit, wx_ga, wx_sa, pk_mul, nI_add, wx_le, wx_lt, wx_eq, wx_en, wx_ne', wx_nn, wx_ltn, wx_len, wx_nlt, wx_nle, wx_bz0, wx_bz1, if_pos, if_neg, wx_ite, Nat.reduceEqDiff, eq_self, if_true, if_false, not_true_eq_false, not_false_eq_true]
    · simp -implicitDefEqProofs (disch := omega) only [e_X12_savedBy_4, e_X12_savedBy_4__1, e_X12_savedBy_4__2, e_X12_savedBy_4__3, n4, wx_bd, wx_let, wx_st, wx_lit, wx_ga, wx_sa, pk_mul, nI_add, wx_le, wx_lt, wx_eq, wx_en, wx_ne', wx_nn, wx_ltn, wx_len, wx_nlt, wx_nle, wx_bz0, wx_bz1, if_pos, if_neg, wx_ite, Nat.reduceEqDiff, eq_self, if_true, if_false, not_true_eq_false, not_false_eq_true]
  | succ d ih =>
    intro i n m a hi hn hm
    obtain ⟨n, rfl⟩ : ∃ k, n = k + 1 := ⟨n - 1, by omega⟩
    obtain ⟨m, rfl⟩ : ∃ k, m = k + 1 := ⟨m - 1, by omega⟩
    have hij : i < nw := by omega
    by_cases c : (x >>> (nI i &&& nI 31)) &&& nI 1 = nI 1
    · by_cases c1 : τ 4 i = nI 1
      · obtain ⟨r, q1, q2⟩ := ih (i + 1) n m (a + τ 1 (67 + i) + nI 3) (by omega) (by omega) (by omega)
        refine ⟨r, ?_, ?_⟩
        · simp -implicitDefEqProofs (disch := omega) only [e_X9_worthOf_4, e_X9_worthOf_4__1, e_X9_worthOf_4__2, e_X9_worthOf_43, e_X9_worthOf_43__1, e_X9_worthOf_46, e_X9_worthOf_46__1, wb_nw h, wb_rules h, wb_colour h, c, c1, wx_bd, wx_let, wx_st, wx_lit, wx_ga, wx_sa, pk_mul, nI_add, wx_le, wx_lt, wx_eq, wx_en, wx_ne', wx_nn, wx_ltn, wx_len, wx_nlt, wx_nle, wx_bz0, wx_bz1, if_pos, if_neg, wx_ite, Nat.reduceEqDiff, eq_self, if_true, if_false, not_true_eq_false, not_false_eq_true]
          rw [← Int32.add_assoc]; exact q1
        · simp -implicitDefEqProofs (disch := omega) only [e_X12_savedBy_4, e_X12_savedBy_4__1, e_X12_savedBy_4__2, e_X12_savedBy_4__3, e_X12_savedBy_47, e_X12_savedBy_47__1, e_X12_savedBy_49, e_X12_savedBy_49__1, e_X12_has, n4, c, c1, wx_bd, wx_let, wx_st, wx_lit, wx_ga, wx_sa, pk_mul, nI_add, wx_le, wx_lt, wx_eq, wx_en, wx_ne', wx_nn, wx_ltn, wx_len, wx_nlt, wx_nle, wx_bz0, wx_bz1, if_pos, if_neg, wx_ite, Nat.reduceEqDiff, eq_self, if_true, if_false, not_true_eq_false, not_false_eq_true]; exact q2
      · obtain ⟨r, q1, q2⟩ := ih (i + 1) n m (a + τ 1 (67 + i) + nI 0) (by omega) (by omega) (by omega)
        refine ⟨r, ?_, ?_⟩
        · simp -implicitDefEqProofs (disch := omega) only [e_X9_worthOf_4, e_X9_worthOf_4__1, e_X9_worthOf_4__2, e_X9_worthOf_43, e_X9_worthOf_43__1, e_X9_worthOf_46, e_X9_worthOf_46__1, wb_nw h, wb_rules h, wb_colour h, c, c1, wx_bd, wx_let, wx_st, wx_lit, wx_ga, wx_sa, pk_mul, nI_add, wx_le, wx_lt, wx_eq, wx_en, wx_ne', wx_nn, wx_ltn, wx_len, wx_nlt, wx_nle, wx_bz0, wx_bz1, if_pos, if_neg, wx_ite, Nat.reduceEqDiff, eq_self, if_true, if_false, not_true_eq_false, not_false_eq_true]
          rw [← Int32.add_assoc]; exact q1
        · simp -implicitDefEqProofs (disch := omega) only [e_X12_savedBy_4, e_X12_savedBy_4__1, e_X12_savedBy_4__2, e_X12_savedBy_4__3, e_X12_savedBy_47, e_X12_savedBy_47__1, e_X12_savedBy_49, e_X12_savedBy_49__1, e_X12_has, n4, c, c1, wx_bd, wx_let, wx_st, wx_lit, wx_ga, wx_sa, pk_mul, nI_add, wx_le, wx_lt, wx_eq, wx_en, wx_ne', wx_nn, wx_ltn, wx_len, wx_nlt, wx_nle, wx_bz0, wx_bz1, if_pos, if_neg, wx_ite, Nat.reduceEqDiff, eq_self, if_true, if_false, not_true_eq_false, not_false_eq_true]; exact q2
    · obtain ⟨r, q1, q2⟩ := ih (i + 1) n m a (by omega) (by omega) (by omega)
      refine ⟨r, ?_, ?_⟩
      · simp -implicitDefEqProofs (disch := omega) only [e_X9_worthOf_4, e_X9_worthOf_4__1, e_X9_worthOf_4__2, e_X9_worthOf_46, e_X9_worthOf_46__1, wb_nw h, wb_hair h, c, wx_bd, wx_let, wx_st, wx_lit, wx_ga, wx_sa, pk_mul, nI_add, wx_le, wx_lt, wx_eq, wx_en, wx_ne', wx_nn, wx_ltn, wx_len, wx_nlt, wx_nle, wx_bz0, wx_bz1, if_pos, if_neg, wx_ite, Nat.reduceEqDiff, eq_self, if_true, if_false, not_true_eq_false, not_false_eq_true]; exact q1
      · simp -implicitDefEqProofs (disch := omega) only [e_X12_savedBy_4, e_X12_savedBy_4__1, e_X12_savedBy_4__2, e_X12_savedBy_4__3, e_X12_savedBy_49, e_X12_savedBy_49__1, e_X12_has, n4, c, wx_bd, wx_let, wx_st, wx_lit, wx_ga, wx_sa, pk_mul, nI_add, wx_le, wx_lt, wx_eq, wx_en, wx_ne', wx_nn, wx_ltn, wx_len, wx_nlt, wx_nle, wx_bz0, wx_bz1, if_pos, if_neg, wx_ite, Nat.reduceEqDiff, eq_self, if_true, if_false, not_true_eq_false, not_false_eq_true]; exact q2
set_option maxHeartbeats 1000000 in
theorem wl_worthOf (h : wB nw nj nc σ 1 (τ 1) τ) (hN : wN nw nj nc τ) (x : Int32) : ∃ r, f_X9_worthOf 2 x σ = some (r, σ) ∧ f_X12_savedBy 0 x τ = some (r, τ) :=
  wl_worthOf_l h hN x nw 0 wg_N wg_N 0 (by omega) (by have := hN.1; rw [wx_N]; omega) (by have := hN.1; rw [wx_N]; omega)
end RD

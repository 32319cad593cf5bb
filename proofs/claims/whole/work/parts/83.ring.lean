/-! what UNDO goes back to -/
set_option maxHeartbeats 1000000 in
theorem sc_r258_0 : wg_r Sc 258 0 = 259 := by decide
set_option maxHeartbeats 1000000 in
theorem wl_gr {α : Type} {k : Nat} {κ : Nat → Option α} (hk : k < 6) : wg_gr Sc 259 (nI k) κ = κ (138 + 20 * k) := by
  unfold wg_gr
  rw [nI_toInt (by omega), nI_clamp (by omega), show wg_n Sc 259 = 6 by decide, if_pos (by omega)]
  rcases (show k = 0 ∨ k = 1 ∨ k = 2 ∨ k = 3 ∨ k = 4 ∨ k = 5 by omega) with rfl | rfl | rfl | rfl | rfl | rfl <;> rfl
set_option maxHeartbeats 1000000 in
theorem wl_thk : ∀ d i n τ, i + d = 295 → d < n → ∃ τ', f_X12_thinks_2 n 0 (nI i) τ = some (nI 0, wg_u τ' 0 5 (nI 1)) ∧ (∀ a, a ≠ 3 → τ' a = τ a) ∧ (∀ j, j < i → τ' 3 j = τ 3 j) ∧ ∀ j, i ≤ j → j < 295 → τ' 3 j = τ 1 j := by
  intro d
  induction d with
  | zero =>
    intro i n τ hi hn
    obtain ⟨n, rfl⟩ : ∃ k, n = k + 1 := ⟨n - 1, by omega⟩
    exact ⟨τ, by simp -implicitDefEqProofs (disch := omega) only [e_X12_thinks_2, e_X12_thinks_2__1, e_X12_thinks_2__2, e_X12_thinks_2__3, e_X12_thinks_2__4, wx_bd, wx_let, wx_st, wx_lit, wx_ga, wx_sa, pk_mul, nI_add, wx_le, wx_lt, wx_eq, wx_en, wx_ne', wx_nn, wx_ltn, wx_len, wx_nlt, wx_nle, wx_bz0, wx_bz1, if_pos, if_neg, wx_ite, Nat.reduceEqDiff, eq_self, if_true, if_false, not_true_eq_false, not_false_eq_true], fun _ _ => rfl, fun _ _ => rfl, fun j q1 q2 => by omega⟩
  | succ d ih =>
    intro i n τ hi hn
    obtain ⟨n, rfl⟩ : ∃ k, n = k + 1 := ⟨n - 1, by omega⟩
    obtain ⟨τ', r1, r2, r3, r4⟩ := ih (i + 1) n (wg_u τ 3 i (τ 1 i)) (by omega) (by omega)
    refine ⟨τ', by simp -implicitDefEqProofs (disch := omega) only [e_X12_thinks_2, e_X12_thinks_2__1, e_X12_thinks_2__2, e_X12_thinks_2__3, e_X12_thinks_2__4, wx_bd, wx_let, wx_st, wx_lit, wx_ga, wx_sa, pk_mul, nI_add, wx_le, wx_lt, wx_eq, wx_en, wx_ne', wx_nn, wx_ltn, wx_len, wx_nlt, wx_nle, wx_bz0, wx_bz1, if_pos, if_neg, wx_ite, Nat.reduceEqDiff, eq_self, if_true, if_false, not_true_eq_false, not_false_eq_true]; exact r1, fun a ha => (r2 a ha).trans (wx_un ha), fun j hj => by rw [r3 j (by omega), wx_uk, pk_un (by omega)], fun j q1 q2 => ?_⟩
    rcases Nat.lt_or_ge i j with q | q
    · rw [r4 j (by omega) q2, wx_un (by omega)]
    · rw [show j = i by omega, r3 i (by omega), wx_uk, pk_us]
set_option maxHeartbeats 1000000 in
theorem wl_ends : ∀ d i n τ, i + d = 295 → d < n → ∃ τ', f_X12_endsThought_2 n 0 (nI i) τ = some (nI 0, wg_u τ' 0 5 (nI 0)) ∧ (∀ a, a ≠ 1 → τ' a = τ a) ∧ (∀ j, j < i → τ' 1 j = τ 1 j) ∧ ∀ j, i ≤ j → j < 295 → τ' 1 j = τ 3 j := by
  intro d
  induction d with
  | zero =>
    intro i n τ hi hn
    obtain ⟨n, rfl⟩ : ∃ k, n = k + 1 := ⟨n - 1, by omega⟩
    exact ⟨τ, by simp -implicitDefEqProofs (disch := omega) only [e_X12_endsThought_2, e_X12_endsThought_2__1, e_X12_endsThought_2__2, e_X12_endsThought_2__3, e_X12_endsThought_2__4, wx_bd, wx_let, wx_st, wx_lit, wx_ga, wx_sa, pk_mul, nI_add, wx_le, wx_lt, wx_eq, wx_en, wx_ne', wx_nn, wx_ltn, wx_len, wx_nlt, wx_nle, wx_bz0, wx_bz1, if_pos, if_neg, wx_ite, Nat.reduceEqDiff, eq_self, if_true, if_false, not_true_eq_false, not_false_eq_true], fun _ _ => rfl, fun _ _ => rfl, fun j q1 q2 => by omega⟩
  | succ d ih =>
    intro i n τ hi hn
    obtain ⟨n, rfl⟩ : ∃ k, n = k + 1 := ⟨n - 1, by omega⟩
    obtain ⟨τ', r1, r2, r3, r4⟩ := ih (i + 1) n (wg_u τ 1 i (τ 3 i)) (by omega) (by omega)
    refine ⟨τ', by simp -implicitDefEqProofs (disch := omega) only [e_X12_endsThought_2, e_X12_endsThought_2__1, e_X12_endsThought_2__2, e_X12_endsThought_2__3, e_X12_endsThought_2__4, wx_bd, wx_let, wx_st, wx_lit, wx_ga, wx_sa, pk_mul, nI_add, wx_le, wx_lt, wx_eq, wx_en, wx_ne', wx_nn, wx_ltn, wx_len, wx_nlt, wx_nle, wx_bz0, wx_bz1, if_pos, if_neg, wx_ite, Nat.reduceEqDiff, eq_self, if_true, if_false, not_true_eq_false, not_false_eq_true]; exact r1, fun a ha => (r2 a ha).trans (wx_un ha), fun j hj => by rw [r3 j (by omega), wx_uk, pk_un (by omega)], fun j q1 q2 => ?_⟩
    rcases Nat.lt_or_ge i j with q | q
    · rw [r4 j (by omega) q2, wx_un (by omega)]
    · rw [show j = i by omega, r3 i (by omega), wx_uk, pk_us]
set_option maxHeartbeats 1000000 in
theorem wl_undo_l {u : Nat} (hu : u < 6) : ∀ d i n τ, i + d = 295 → d < n → τ 0 3 = nI u → ∃ τ', f_X12_undo_26 n 0 (nI i) τ = some (nI 1, τ') ∧ (∀ a, a ≠ 1 → τ' a = τ a) ∧ (∀ j, j < i → τ' 1 j = τ 1 j) ∧ ∀ j, i ≤ j → j < 295 → τ' 1 j = τ 2 (295 * u + j) := by
  intro d
  induction d with
  | zero =>
    intro i n τ hi hn h0
    obtain ⟨n, rfl⟩ : ∃ k, n = k + 1 := ⟨n - 1, by omega⟩
    exact ⟨τ, by simp -implicitDefEqProofs (disch := omega) only [e_X12_undo_26, e_X12_undo_26__1, e_X12_undo_26__2, e_X12_undo_26__3, wx_bd, wx_let, wx_st, wx_lit, wx_ga, wx_sa, pk_mul, nI_add, wx_le, wx_lt, wx_eq, wx_en, wx_ne', wx_nn, wx_ltn, wx_len, wx_nlt, wx_nle, wx_bz0, wx_bz1, if_pos, if_neg, wx_ite, Nat.reduceEqDiff, eq_self, if_true, if_false, not_true_eq_false, not_false_eq_true], fun _ _ => rfl, fun _ _ => rfl, fun j q1 q2 => by omega⟩
  | succ d ih =>
    intro i n τ hi hn h0
    obtain ⟨n, rfl⟩ : ∃ k, n = k + 1 := ⟨n - 1, by omega⟩
    obtain ⟨τ', r1, r2, r3, r4⟩ := ih (i + 1) n (wg_u τ 1 i (τ 2 (295 * u + i))) (by omega) (by omega) (by rw [wx_un (by omega)]; exact h0)
    refine ⟨τ', by simp -implicitDefEqProofs (disch := omega) only [e_X12_undo_26, e_X12_undo_26__1, e_X12_undo_26__2, e_X12_undo_26__3, h0, wx_bd, wx_let, wx_st, wx_lit, wx_ga, wx_sa, pk_mul, nI_add, wx_le, wx_lt, wx_eq, wx_en, wx_ne', wx_nn, wx_ltn, wx_len, wx_nlt, wx_nle, wx_bz0, wx_bz1, if_pos, if_neg, wx_ite, Nat.reduceEqDiff, eq_self, if_true, if_false, not_true_eq_false, not_false_eq_true]; exact r1, fun a ha => (r2 a ha).trans (wx_un ha), fun j hj => by rw [r3 j (by omega), wx_uk, pk_un (by omega)], fun j q1 q2 => ?_⟩
    rcases Nat.lt_or_ge i j with q | q
    · rw [r4 j (by omega) q2, wx_un (by omega)]
    · rw [show j = i by omega, r3 i (by omega), wx_uk, pk_us]
set_option maxHeartbeats 1000000 in
theorem wl_keep_l {u : Nat} (hu : u < 6) : ∀ d i n τ, i + d = 295 → d < n → τ 0 3 = nI u → ∃ τ', f_X12_keepsAhead_57 n 0 (nI i) τ = some (nI 0, wg_u τ' 0 3 (nI (u + 1))) ∧ (∀ a, a ≠ 2 → τ' a = τ a) ∧ (∀ y, y < 295 * u + i ∨ 295 * u + 295 ≤ y → τ' 2 y = τ 2 y) ∧ ∀ j, i ≤ j → j < 295 → τ' 2 (295 * u + j) = τ 1 j := by
  intro d
  induction d with
  | zero =>
    intro i n τ hi hn h0
    obtain ⟨n, rfl⟩ : ∃ k, n = k + 1 := ⟨n - 1, by omega⟩
    exact ⟨τ, by simp -implicitDefEqProofs (disch := omega) only [e_X12_keepsAhead_57, e_X12_keepsAhead_57__1, e_X12_keepsAhead_57__2, e_X12_keepsAhead_57__3, e_X12_keepsAhead_57__4, h0, wx_bd, wx_let, wx_st, wx_lit, wx_ga, wx_sa, pk_mul, nI_add, wx_le, wx_lt, wx_eq, wx_en, wx_ne', wx_nn, wx_ltn, wx_len, wx_nlt, wx_nle, wx_bz0, wx_bz1, if_pos, if_neg, wx_ite, Nat.reduceEqDiff, eq_self, if_true, if_false, not_true_eq_false, not_false_eq_true], fun _ _ => rfl, fun _ _ => rfl, fun j q1 q2 => by omega⟩
  | succ d ih =>
    intro i n τ hi hn h0
    obtain ⟨n, rfl⟩ : ∃ k, n = k + 1 := ⟨n - 1, by omega⟩
    obtain ⟨τ', r1, r2, r3, r4⟩ := ih (i + 1) n (wg_u τ 2 (295 * u + i) (τ 1 i)) (by omega) (by omega) (by rw [wx_un (by omega)]; exact h0)
    refine ⟨τ', by simp -implicitDefEqProofs (disch := omega) only [e_X12_keepsAhead_57, e_X12_keepsAhead_57__1, e_X12_keepsAhead_57__2, e_X12_keepsAhead_57__3, e_X12_keepsAhead_57__4, h0, wx_bd, wx_let, wx_st, wx_lit, wx_ga, wx_sa, pk_mul, nI_add, wx_le, wx_lt, wx_eq, wx_en, wx_ne', wx_nn, wx_ltn, wx_len, wx_nlt, wx_nle, wx_bz0, wx_bz1, if_pos, if_neg, wx_ite, Nat.reduceEqDiff, eq_self, if_true, if_false, not_true_eq_false, not_false_eq_true]; exact r1, fun a ha => (r2 a ha).trans (wx_un ha), fun y hy => by rw [r3 y (by omega), wx_uk, pk_un (by omega)], fun j q1 q2 => ?_⟩
    rcases Nat.lt_or_ge i j with q | q
    · rw [r4 j (by omega) q2, wx_un (by omega)]
    · rw [show j = i by omega, r3 _ (by omega), wx_uk, pk_us]
set_option maxHeartbeats 1000000 in
theorem wl_shift_l : ∀ d x n τ, x + d = 1475 → d < n → τ 0 3 = nI 5 → ∃ τ', f_X12_keepsAhead_21 n 0 (nI x) τ = f_X12_keepsAhead_55 0 τ' ∧ (∀ a, a ≠ 2 → τ' a = τ a) ∧ ∀ y, τ' 2 y = if x ≤ y ∧ y < 1475 then τ 2 (y + 295) else τ 2 y := by
  intro d
  induction d with
  | zero =>
    intro x n τ hx hn h0
    obtain ⟨n, rfl⟩ : ∃ k, n = k + 1 := ⟨n - 1, by omega⟩
    exact ⟨τ, by simp -implicitDefEqProofs (disch := omega) only [e_X12_keepsAhead_21, e_X12_keepsAhead_21__1, e_X12_keepsAhead_21__2, e_X12_keepsAhead_21__3, h0, wx_bd, wx_let, wx_st, wx_lit, wx_ga, wx_sa, pk_mul, nI_add, wx_le, wx_lt, wx_eq, wx_en, wx_ne', wx_nn, wx_ltn, wx_len, wx_nlt, wx_nle, wx_bz0, wx_bz1, if_pos, if_neg, wx_ite, Nat.reduceEqDiff, eq_self, if_true, if_false, not_true_eq_false, not_false_eq_true], fun _ _ => rfl, fun y => by rw [if_neg (by omega)]⟩
  | succ d ih =>
    intro x n τ hx hn h0
    obtain ⟨n, rfl⟩ : ∃ k, n = k + 1 := ⟨n - 1, by omega⟩
    obtain ⟨τ', r1, r2, r3⟩ := ih (x + 1) n (wg_u τ 2 x (τ 2 (x + 295))) (by omega) (by omega) (by rw [wx_un (by omega)]; exact h0)
    refine ⟨τ', by simp -implicitDefEqProofs (disch := omega) only [e_X12_keepsAhead_21, e_X12_keepsAhead_21__1, e_X12_keepsAhead_21__2, e_X12_keepsAhead_21__3, h0, wx_bd, wx_let, wx_st, wx_lit, wx_ga, wx_sa, pk_mul, nI_add, wx_le, wx_lt, wx_eq, wx_en, wx_ne', wx_nn, wx_ltn, wx_len, wx_nlt, wx_nle, wx_bz0, wx_bz1, if_pos, if_neg, wx_ite, Nat.reduceEqDiff, eq_self, if_true, if_false, not_true_eq_false, not_false_eq_true]; exact r1, fun a ha => (r2 a ha).trans (wx_un ha), fun y => ?_⟩
    rw [r3 y]
    by_cases c : y = x
    · subst c
      rw [if_neg (by omega), if_pos (by omega), wx_uk, pk_us]
    · by_cases c2 : x + 1 ≤ y ∧ y < 1475
      · rw [if_pos c2, if_pos (by omega), wx_uk, pk_un (by omega)]
      · rw [if_neg c2, if_neg (by omega), wx_uk, pk_un (by omega)]
set_option maxHeartbeats 1000000 in
/-- the reference keeps a row: its newest is now, the one before it was the newest .. -/
theorem wl_keeps {u : Nat} (hu : u ≤ 6) {τ : wg_M} (h0 : τ 0 3 = nI u) : ∃ τ' u', u' ≤ 6 ∧ 1 ≤ u' ∧ u ≤ u' ∧ (u < 6 → u' = u + 1) ∧ f_X12_keepsAhead 0 τ = some (nI 0, τ') ∧ τ' 0 3 = nI u' ∧ (∀ i, i ≠ 3 → τ' 0 i = τ 0 i) ∧ (∀ a, a ≠ 0 → a ≠ 2 → τ' a = τ a) ∧ (∀ j, j < 295 → τ' 2 (295 * (u' - 1) + j) = τ 1 j) ∧ ∀ k j, k + 1 < u' → j < 295 → τ' 2 (295 * (u' - 1 - (k + 1)) + j) = τ 2 (295 * (u - 1 - k) + j) := by
  rcases (show u < 6 ∨ u = 6 by omega) with c | c
  · obtain ⟨τ', r1, r2, r3, r4⟩ := wl_keep_l c 295 0 wg_N τ (by omega) (by rw [wx_N]; omega) h0
    refine ⟨wg_u τ' 0 3 (nI (u + 1)), u + 1, by omega, by omega, by omega, fun _ => rfl, ?_, by simp -implicitDefEqProofs (disch := omega) only [wx_uk, wx_un, pk_us, pk_un], fun i hi => by simp -implicitDefEqProofs (disch := omega) only [wx_uk, wx_un, pk_us, pk_un, r2], fun a h1 h2 => by simp -implicitDefEqProofs (disch := omega) only [wx_uk, wx_un, pk_us, pk_un, r2], fun j hj => ?_, fun k j hk hj => ?_⟩
    · simp -implicitDefEqProofs (disch := omega) only [e_X12_keepsAhead, e_X12_keepsAhead__1, e_X12_keepsAhead_55, h0, wx_bd, wx_let, wx_st, wx_lit, wx_ga, wx_sa, pk_mul, nI_add, wx_le, wx_lt, wx_eq, wx_en, wx_ne', wx_nn, wx_ltn, wx_len, wx_nlt, wx_nle, wx_bz0, wx_bz1, if_pos, if_neg, wx_ite, Nat.reduceEqDiff, eq_self, if_true, if_false, not_true_eq_false, not_false_eq_true]; exact r1
    · rw [wx_un (by omega), show u + 1 - 1 = u by omega]; exact r4 j (by omega) hj
    · rw [wx_un (by omega), show u + 1 - 1 - (k + 1) = u - 1 - k by omega]
      exact r3 _ (by omega)
  · subst c
    have e5 : nI 6 - nI 1 = nI 5 := by decide
    obtain ⟨τ1, s1, s2, s3⟩ := wl_shift_l 1475 0 wg_N (wg_u τ 0 3 (nI 5)) (by omega) (by rw [wx_N]; omega) (by simp -implicitDefEqProofs (disch := omega) only [wx_uk, wx_un, pk_us, pk_un])
    obtain ⟨τ', r1, r2, r3, r4⟩ := wl_keep_l (u := 5) (by omega) 295 0 wg_N τ1 (by omega) (by rw [wx_N]; omega) (by rw [s2 0 (by omega)]; simp -implicitDefEqProofs (disch := omega) only [wx_uk, wx_un, pk_us, pk_un])
    refine ⟨wg_u τ' 0 3 (nI 6), 6, by omega, by omega, by omega, fun q => by omega, ?_, by simp -implicitDefEqProofs (disch := omega) only [wx_uk, wx_un, pk_us, pk_un], fun i hi => by simp -implicitDefEqProofs (disch := omega) only [wx_uk, wx_un, pk_us, pk_un, r2, s2], fun a h1 h2 => by simp -implicitDefEqProofs (disch := omega) only [wx_uk, wx_un, pk_us, pk_un, r2, s2], fun j hj => ?_, fun k j hk hj => ?_⟩
    · simp -implicitDefEqProofs (disch := omega) only [e_X12_keepsAhead, e_X12_keepsAhead__1, h0, e5, wx_bd, wx_let, wx_st, wx_lit, wx_ga, wx_sa, pk_mul, nI_add, wx_le, wx_lt, wx_eq, wx_en, wx_ne', wx_nn, wx_ltn, wx_len, wx_nlt, wx_nle, wx_bz0, wx_bz1, if_pos, if_neg, wx_ite, Nat.reduceEqDiff, eq_self, if_true, if_false, not_true_eq_false, not_false_eq_true]
      rw [s1]
      simp -implicitDefEqProofs (disch := omega) only [e_X12_keepsAhead_55, wx_bd, wx_let, wx_st, wx_lit, wx_ga, wx_sa, pk_mul, nI_add, wx_le, wx_lt, wx_eq, wx_en, wx_ne', wx_nn, wx_ltn, wx_len, wx_nlt, wx_nle, wx_bz0, wx_bz1, if_pos, if_neg, wx_ite, Nat.reduceEqDiff, eq_self, if_true, if_false, not_true_eq_false, not_false_eq_true]
      exact r1
    · rw [wx_un (by omega)]
      have := r4 j (by omega) hj
      rw [s2 1 (by omega), wx_un (by omega)] at this
      exact this
    · rw [wx_un (by omega), r3 _ (by omega), s3, if_pos (by omega), wx_un (by omega), show 295 * (6 - 1 - (k + 1)) + j + 295 = 295 * (6 - 1 - k) + j by omega]
/-- the newest m rows agree -/
def wQ (m cN nx rN nw nj nc : Nat) (σ τ : wg_M) : Prop := cN ≤ 6 ∧ nx < 6 ∧ rN ≤ 6 ∧ σ 258 2 = nI cN ∧ σ 258 1 = nI nx ∧ τ 0 3 = nI rN ∧ m ≤ cN ∧ m ≤ rN ∧ ∀ k, k < m → wB nw nj nc σ (138 + 20 * ((nx + 5 - k) % 6)) (fun i => τ 2 (295 * (rN - 1 - k) + i)) τ ∧ wY (fun i => τ 2 (295 * (rN - 1 - k) + i))
set_option maxHeartbeats 1000000 in
theorem wQ_P {nw nj nc n nx : Nat} {σ τ : wg_M} (h : wQ n n nx n nw nj nc σ τ) : wP nw nj nc σ τ := by
  obtain ⟨h1, h2, h3, h4, h5, h6, h7, h8, h9⟩ := h
  refine ⟨n, nx, h1, h2, h4, h5, h6, fun k hk => ?_⟩
  have := h9 (n - 1 - k) (by omega)
  rw [show nx + 5 - (n - 1 - k) = nx + 6 - n + k by omega, show n - 1 - (n - 1 - k) = k by omega] at this
  exact this
set_option maxHeartbeats 1000000 in
theorem wP_Q {nw nj nc : Nat} {σ τ : wg_M} (h : wP nw nj nc σ τ) : ∃ n nx, wQ n n nx n nw nj nc σ τ := by
  obtain ⟨n, nx, h1, h2, h3, h4, h5, h6⟩ := h
  refine ⟨n, nx, h1, h2, h1, h3, h4, h5, Nat.le_refl _, Nat.le_refl _, fun k hk => ?_⟩
  have := h6 (n - 1 - k) (by omega)
  rw [show nx + 6 - n + (n - 1 - k) = nx + 5 - k by omega] at this
  exact this
set_option maxHeartbeats 1000000 in
theorem wQ_fr {m cN nx rN nw nj nc : Nat} {σ τ σ' τ' : wg_M} (hn : nw ≤ 8 ∧ nj ≤ 10 ∧ nc ≤ 14) (hf : wFq σ σ' τ τ') (h : wQ m cN nx rN nw nj nc σ τ) : wQ m cN nx rN nw nj nc σ' τ' := by
  obtain ⟨h1, h2, h3, h4, h5, h6, h7, h8, h9⟩ := h
  obtain ⟨f1, f2⟩ := hf
  have e258 := f1 258 (by omega) (by omega) (by omega)
  have e0 := f2 0 (by omega) (by omega) (by omega) (by omega)
  have e2 := f2 2 (by omega) (by omega) (by omega) (by omega)
  refine ⟨h1, h2, h3, by rw [e258]; exact h4, by rw [e258]; exact h5, by rw [e0]; exact h6, h7, h8, fun k hk => ?_⟩
  have hm := Nat.mod_lt (nx + 5 - k) (show 6 > 0 by omega)
  rw [e2]
  refine ⟨wB_fr hn (fun a q1 q2 => f1 a (by omega) (by omega) (by omega)) (fun _ _ => rfl) (fun i _ => by rw [f2 4 (by omega) (by omega) (by omega) (by omega)]) (fun i _ => by rw [f2 5 (by omega) (by omega) (by omega) (by omega)]) (fun i _ => by rw [f2 6 (by omega) (by omega) (by omega) (by omega)]) (fun i _ => by rw [f2 7 (by omega) (by omega) (by omega) (by omega)]) (h9 k hk).1, (h9 k hk).2⟩
set_option maxHeartbeats 1000000 in
theorem wl_rem {th : Bool} {m cN nx rN nw nj nc : Nat} {σ τ : wg_M} (h : wX th nw nj nc σ τ) (hY : wY (τ 1)) (hQ : wQ m cN nx rN nw nj nc σ τ) : ∃ σ' τ' cN' rN', f_X5_remember 258 1 σ = some (nI 0, σ') ∧ f_X12_keepsAhead 0 τ = some (nI 0, τ') ∧ wX th nw nj nc σ' τ' ∧ wQ (if m < 6 then m + 1 else 6) cN' ((nx + 1) % 6) rN' nw nj nc σ' τ' ∧ (∀ a, a < 138 ∨ 258 < a → σ' a = σ a) ∧ (∀ i, i ≠ 3 → τ' 0 i = τ 0 i) ∧ (∀ a, a ≠ 0 → a ≠ 2 → τ' a = τ a) ∧ cN' = (if cN < 6 then cN + 1 else 6) ∧ rN' = (if rN < 6 then rN + 1 else 6) := by
  obtain ⟨q1, q2, q3, q4, q5, q6, q7, q8, q9⟩ := hQ
  obtain ⟨x1, x2, x3, x4, x5⟩ := id h
  have hn : nw ≤ 8 ∧ nj ≤ 10 ∧ nc ≤ 14 := ⟨x1.1, x1.2.1, x1.2.2.1⟩
  obtain ⟨τ', u', u1, u2, u3, u4, k1, k2, k3, k4, k5, k6⟩ := wl_keeps q3 q6
  have cp := wl_copyB (σ := σ) wShp_1 (wShp_k nx q2) (Or.inl (by omega))
  obtain ⟨s1, hs1⟩ : ∃ s1, s1 = wcB 1 (138 + 20 * nx) σ := ⟨_, rfl⟩
  rw [← hs1] at cp
  have su : ∀ q, q < 138 + 20 * nx ∨ 138 + 20 * nx + 20 ≤ q → s1 q = σ q := fun q hq => by rw [hs1]; exact wcB_un hq
  obtain ⟨cN', hcN⟩ : ∃ cN', cN' = (if cN < 6 then cN + 1 else 6) := ⟨_, rfl⟩
  have hc6 : cN' ≤ 6 := by rw [hcN]; split <;> omega
  have e1 : s1 258 1 = nI nx := by rw [su 258 (by omega)]; exact q5
  have e2 : s1 258 2 = nI cN := by rw [su 258 (by omega)]; exact q4
  have hd6 : ¬ nI 6 = nI 0 := by decide
  have hrm : nI (nx + 1) - nI (nx + 1) / nI 6 * nI 6 = nI ((nx + 1) % 6) := pk_rem (by omega) (by omega) (by omega)
  have hmn : ∀ s : wg_M, f_J9_min_7cf53 (nI 6) (nI (cN + 1)) s = some (nI cN', s) := fun s => by
    rw [wl_min, hcN]
    simp -implicitDefEqProofs (disch := omega) only [wx_le]
    by_cases c : cN < 6
    · rw [if_pos (by omega), if_pos c]
    · rw [if_neg (by omega), if_neg c]
  have hS : f_X5_remember 258 1 σ = some (nI 0, wg_u (wg_u s1 258 1 (nI ((nx + 1) % 6))) 258 2 (nI cN')) := by
    unfold f_X5_remember
    rw [sc_r258_0, q5, wl_gr q2]
    rw [cp]
    simp -implicitDefEqProofs (disch := omega) only [wg_rm, e1, e2, hrm, hmn, wx_uk, wx_un, pk_us, pk_un, wx_bd, wx_let, wx_st, wx_lit, wx_ga, wx_sa, pk_mul, nI_add, wx_le, wx_lt, wx_eq, wx_en, wx_ne', wx_nn, wx_ltn, wx_len, wx_nlt, wx_nle, wx_bz0, wx_bz1, if_pos, if_neg, wx_ite, Nat.reduceEqDiff, eq_self, if_true, if_false, not_true_eq_false, not_false_eq_true]
  obtain ⟨S, hSd⟩ : ∃ S, S = wg_u (wg_u s1 258 1 (nI ((nx + 1) % 6))) 258 2 (nI cN') := ⟨_, rfl⟩
  rw [← hSd] at hS
  have Su : ∀ q, q < 138 + 20 * nx ∨ 138 + 20 * nx + 20 ≤ q → q ≠ 258 → S q = σ q := fun q h1 h2 => by
    rw [hSd]; simp -implicitDefEqProofs (disch := omega) only [wx_un]; exact su q h1
  have Sn : ∀ q, 138 + 20 * nx ≤ q → q < 138 + 20 * nx + 20 → S q = s1 q := fun q h1 h2 => by
    rw [hSd]; simp -implicitDefEqProofs (disch := omega) only [wx_un]
  have v0 : ∀ a, a ≠ 0 → a ≠ 2 → τ' a = τ a := k4
  have hru : u' = (if rN < 6 then rN + 1 else 6) := by
    split
    · exact u4 (by omega)
    · omega
  refine ⟨S, τ', cN', u', hS, k1, ?_, ⟨hc6, Nat.mod_lt _ (by omega), u1, by rw [hSd]; simp -implicitDefEqProofs (disch := omega) only [wx_uk, wx_un, pk_us, pk_un], by rw [hSd]; simp -implicitDefEqProofs (disch := omega) only [wx_uk, wx_un, pk_us, pk_un], k2, by rw [hcN]; split <;> split <;> omega, by rw [hru]; split <;> split <;> omega, fun k hk => ?_⟩, fun a ha => Su a (by omega) (by omega), k3, k4, hcN, hru⟩
  · refine ⟨wN_fr (k3 6 (by omega)) (k3 7 (by omega)) (k3 8 (by omega)) x1, ?_, ?_, ?_, ?_, ?_⟩
    · exact wB_fr hn (fun a p1 p2 => Su a (by omega) (by omega)) (fun i _ => by rw [v0 1 (by omega) (by omega)]) (fun i _ => by rw [v0 4 (by omega) (by omega)]) (fun i _ => by rw [v0 5 (by omega) (by omega)]) (fun i _ => by rw [v0 6 (by omega) (by omega)]) (fun i _ => by rw [v0 7 (by omega) (by omega)]) x2
    · exact wPg_fr (fun a p1 p2 => Su a (by omega) (by omega)) (fun i _ => by rw [v0 8 (by omega) (by omega)]) x3
    · refine wRt_fr (fun a p1 p2 p3 p4 => Su a (by omega) (by omega)) (fun a i p _ _ _ _ _ _ p0 => ?_) x4
      by_cases ca : a = 0
      · subst ca
        exact k3 i (by have := p0 rfl; omega)
      · rw [v0 a ca (fun e => by subst e; simp [wLv] at p)]
    · rw [Su 279 (by omega) (by omega)]; exact x5.1
    · rw [k3 5 (by omega)]; exact x5.2
  · have hstat : ∀ a, 4 ≤ a → a < 8 → τ' a = τ a := fun a p1 p2 => v0 a (by omega) (by omega)
    rcases Nat.eq_zero_or_pos k with rfl | kp
    · have hix : ((nx + 1) % 6 + 5 - 0) % 6 = nx := by omega
      rw [hix]
      have b0 := wcB_B (b := 138 + 20 * nx) hn (Or.inl (by omega)) x2
      rw [← hs1] at b0
      refine ⟨wB_fr hn (fun a p1 p2 => Sn a p1 p2) (fun i hi => ?_) (fun i _ => by rw [hstat 4 (by omega) (by omega)]) (fun i _ => by rw [hstat 5 (by omega) (by omega)]) (fun i _ => by rw [hstat 6 (by omega) (by omega)]) (fun i _ => by rw [hstat 7 (by omega) (by omega)]) b0, wY_fr ?_ hY⟩
      · show τ' 2 (295 * (u' - 1 - 0) + i) = τ 1 i
        rw [Nat.sub_zero]; exact k5 i hi
      · show τ' 2 (295 * (u' - 1 - 0) + 0) = τ 1 0
        rw [Nat.sub_zero]; exact k5 0 (by omega)
    · obtain ⟨k0, rfl⟩ : ∃ k0, k = k0 + 1 := ⟨k - 1, by omega⟩
      have hk0 : k0 < m := by split at hk <;> omega
      have hk5 : k0 + 1 < 6 := by split at hk <;> omega
      have hix : ((nx + 1) % 6 + 5 - (k0 + 1)) % 6 = (nx + 5 - k0) % 6 := by omega
      have hne : (nx + 5 - k0) % 6 ≠ nx := by omega
      have hlt := Nat.mod_lt (nx + 5 - k0) (show 6 > 0 by omega)
      rw [hix]
      have old := q9 k0 hk0
      have hu' : k0 + 1 < u' := by rw [hru]; split <;> omega
      refine ⟨wB_fr hn (fun a p1 p2 => Su a (by omega) (by omega)) (fun i hi => ?_) (fun i _ => by rw [hstat 4 (by omega) (by omega)]) (fun i _ => by rw [hstat 5 (by omega) (by omega)]) (fun i _ => by rw [hstat 6 (by omega) (by omega)]) (fun i _ => by rw [hstat 7 (by omega) (by omega)]) old.1, wY_fr ?_ old.2⟩
      · exact k6 k0 i hu' hi
      · exact k6 k0 0 hu' (by omega)

section HM
variable {h d : Nat → Nat} {N : Nat} {σ τ : wg_M}
set_option maxHeartbeats 1000000 in
theorem wl_lb_l (H : wHm h d N τ) {S i L : Nat} (hS : S < 128) (hi : i < N) (hL : τ 32 (S ||| 2 ^ i) = nI L) (hL2 : L ≤ 1000) : ∀ t k f, k + t = N → t < f → f_X12_lateBy_10 f 0 (nI S) (nI i) (nI (h i + wHs (fun j => S.testBit j) h k)) (nI k) τ = some (nI (max L (h i + wHs (fun j => S.testBit j) h N - d i)), τ) := by
  obtain ⟨hN, h53, hj⟩ := H
  have o7 := wx_or128 hS (show i < 7 by omega)
  have sh := wx_shl8 i (by omega)
  obtain ⟨a1, a2, a3, a4⟩ := hj i hi
  intro t
  induction t with
  | zero =>
    intro k f hk hf
    obtain ⟨f, rfl⟩ : ∃ k, f = k + 1 := ⟨f - 1, by omega⟩
    obtain rfl : k = N := by omega
    have bd := wHs_bd (p := fun j => S.testBit j) (h := h) (B := 24) (k := k) (fun j q => (hj j q).2.1)
    have mx := wl_grs (show L < 100000 by omega) (show h i + wHs (fun j => S.testBit j) h k < 100000 by omega) (show d i < 100000 by omega) τ
    simp -implicitDefEqProofs (disch := omega) only [e_X12_lateBy_10, e_X12_lateBy_10__1, e_X12_lateBy_10__2, e_X12_lateBy_10__3, e_X12_lateBy_10__4, e_X12_lateBy_10__5, e_X12_lateBy_10__6, h53, a3, sh, fa_or, hL, mx, wx_bd, wx_let, wx_st, wx_lit, wx_ga, wx_sa, pk_mul, nI_add, wx_le, wx_lt, wx_eq, wx_en, wx_ne', wx_nn, wx_ltn, wx_len, wx_nlt, wx_nle, wx_bz0, wx_bz1, if_pos, if_neg, wx_ite, Nat.reduceEqDiff, eq_self, if_true, if_false, not_true_eq_false, not_false_eq_true]
  | succ t ih =>
    intro k f hk hf
    obtain ⟨f, rfl⟩ : ∃ k, f = k + 1 := ⟨f - 1, by omega⟩
    have st := ih (k + 1) f (by omega) (by omega)
    obtain ⟨b1, b2, b3, b4⟩ := hj k (by omega)
    by_cases c : S.testBit k = true
    · have e := wl_has1 (show S < 2147483648 by omega) (show k < 31 by omega) c τ
      simp only [wHs, c, if_true] at st
      rw [← Nat.add_assoc] at st
      simp -implicitDefEqProofs (disch := omega) only [e_X12_lateBy_10, e_X12_lateBy_10__1, e_X12_lateBy_10__2, e_X12_lateBy_10__3, e_X12_lateBy_10__4, e_X12_lateBy_10__5, e_X12_lateBy_10__6, e_X12_lateBy_39, e_X12_lateBy_39__1, h53, e, b1, wx_bd, wx_let, wx_st, wx_lit, wx_ga, wx_sa, pk_mul, nI_add, wx_le, wx_lt, wx_eq, wx_en, wx_ne', wx_nn, wx_ltn, wx_len, wx_nlt, wx_nle, wx_bz0, wx_bz1, if_pos, if_neg, wx_ite, Nat.reduceEqDiff, eq_self, if_true, if_false, not_true_eq_false, not_false_eq_true]
      exact st
    · have e := wl_has0 (show S < 2147483648 by omega) (show k < 31 by omega) c τ
      simp only [wHs, c, if_false, Nat.add_zero, Bool.false_eq_true] at st
      simp -implicitDefEqProofs (disch := omega) only [e_X12_lateBy_10, e_X12_lateBy_10__1, e_X12_lateBy_10__2, e_X12_lateBy_10__3, e_X12_lateBy_10__4, e_X12_lateBy_10__5, e_X12_lateBy_10__6, e_X12_lateBy_39, e_X12_lateBy_39__1, h53, e, wx_bd, wx_let, wx_st, wx_lit, wx_ga, wx_sa, pk_mul, nI_add, wx_le, wx_lt, wx_eq, wx_en, wx_ne', wx_nn, wx_ltn, wx_len, wx_nlt, wx_nle, wx_bz0, wx_bz1, if_pos, if_neg, wx_ite, Nat.reduceEqDiff, eq_self, if_true, if_false, not_true_eq_false, not_false_eq_true]
      exact st
set_option maxHeartbeats 1000000 in
theorem wl_lb (H : wHm h d N τ) {S i L : Nat} (hS : S < 128) (hi : i < N) (hL : τ 32 (S ||| 2 ^ i) = nI L) (hL2 : L ≤ 1000) : f_X12_lateBy 0 (nI S) (nI i) τ = some (nI (max L (wHs (fun j => S.testBit j) h N + h i - d i)), τ) := by
  have hN := H.1
  have := wl_lb_l H hS hi hL hL2 N 0 wg_N (by omega) (by rw [wx_N]; omega)
  have a := (H.2.2 i hi).1
  rw [Nat.add_comm (wHs _ h N)]
  simp -implicitDefEqProofs (disch := omega) only [e_X12_lateBy, a, wx_bd, wx_let, wx_st, wx_lit, wx_ga, wx_sa, pk_mul, nI_add, wx_le, wx_lt, wx_eq, wx_en, wx_ne', wx_nn, wx_ltn, wx_len, wx_nlt, wx_nle, wx_bz0, wx_bz1, if_pos, if_neg, wx_ite, Nat.reduceEqDiff, eq_self, if_true, if_false, not_true_eq_false, not_false_eq_true]
  exact this
/-- the numbers found from X on -/
def wHf (h d : Nat → Nat) (N X : Nat) (τ : wg_M) : Prop := ∀ S, X ≤ S → S < 2 ^ N → ∃ L, τ 32 S = nI L ∧ L ≤ 1000 ∧ ∀ x, x ≤ 1000 → (L ≤ x ↔ wHP h d N S x)
set_option maxHeartbeats 1000000 in
theorem wx_or_gt {S i : Nat} (h : S.testBit i = false) : S < S ||| 2 ^ i := by
  have l : S ≤ S ||| 2 ^ i := Nat.left_le_or
  rcases Nat.lt_or_ge S (S ||| 2 ^ i) with q | q
  · exact q
  · have e : S ||| 2 ^ i = S := by omega
    have := fb_bit_set S i i
    rw [e, h] at this
    simp at this
set_option maxHeartbeats 1000000 in
theorem wx_or_lt {S i N : Nat} (hS : S < 2 ^ N) (hi : i < N) : S ||| 2 ^ i < 2 ^ N :=
  Nat.or_lt_two_pow hS (Nat.pow_lt_pow_right (by omega) hi)
set_option maxHeartbeats 1000000 in
theorem wl_lesr {a b : Nat} (ha : a < 2147483648) (hb : b < 2147483648) (τ : wg_M) : f_X12_lesser 0 (nI a) (nI b) τ = some (nI (min a b), τ) := by
  by_cases q : b ≤ a
  · rw [Nat.min_eq_right q]
    simp -implicitDefEqProofs (disch := omega) only [e_X12_lesser, wx_bd, wx_let, wx_st, wx_lit, wx_ga, wx_sa, pk_mul, nI_add, wx_le, wx_lt, wx_eq, wx_en, wx_ne', wx_nn, wx_ltn, wx_len, wx_nlt, wx_nle, wx_bz0, wx_bz1, if_pos, if_neg, wx_ite, Nat.reduceEqDiff, eq_self, if_true, if_false, not_true_eq_false, not_false_eq_true]
  · rw [Nat.min_eq_left (by omega)]
    simp -implicitDefEqProofs (disch := omega) only [e_X12_lesser, wx_bd, wx_let, wx_st, wx_lit, wx_ga, wx_sa, pk_mul, nI_add, wx_le, wx_lt, wx_eq, wx_en, wx_ne', wx_nn, wx_ltn, wx_len, wx_nlt, wx_nle, wx_bz0, wx_bz1, if_pos, if_neg, wx_ite, Nat.reduceEqDiff, eq_self, if_true, if_false, not_true_eq_false, not_false_eq_true]
set_option maxHeartbeats 1000000 in
theorem wl_fl35 (H : wHm h d N τ) {X : Nat} (hX : X < 2 ^ N) (hf : wHf h d N (X + 1) τ) (K : Nat → Int32 → wg_M → Option (Int32 × wg_M)) : ∀ t i f m, i + t = N → t < f → m ≤ 100000000 → ∃ m', m' ≤ m ∧ f_X12_findsLate_35 K f 0 (nI X) (nI m) (nI i) τ = K 0 (nI X + -nI 1) (wg_u τ 32 X (nI m')) ∧ ∀ x, x ≤ 1000 → (m' ≤ x ↔ m ≤ x ∨ ∃ i', i ≤ i' ∧ i' < N ∧ X.testBit i' = false ∧ wHs (fun j => X.testBit j) h N + h i' ≤ d i' + x ∧ wHP h d N (X ||| 2 ^ i') x) := by
  obtain ⟨hN, h53, hj⟩ := id H
  have h2 : 2 ^ N ≤ 2 ^ 7 := Nat.pow_le_pow_right (by omega) hN
  intro t
  induction t with
  | zero =>
    intro i f m hi hf hm
    obtain ⟨f, rfl⟩ : ∃ k, f = k + 1 := ⟨f - 1, by omega⟩
    exact ⟨m, Nat.le_refl _, by simp -implicitDefEqProofs (disch := omega) only [e_X12_findsLate_35, e_X12_findsLate_35__1, e_X12_findsLate_35__2, e_X12_findsLate_35__3, e_X12_findsLate_35__4, e_X12_findsLate_35__5, h53, wx_bd, wx_let, wx_st, wx_lit, wx_ga, wx_sa, pk_mul, nI_add, wx_le, wx_lt, wx_eq, wx_en, wx_ne', wx_nn, wx_ltn, wx_len, wx_nlt, wx_nle, wx_bz0, wx_bz1, if_pos, if_neg, wx_ite, Nat.reduceEqDiff, eq_self, if_true, if_false, not_true_eq_false, not_false_eq_true], fun x _ => ⟨Or.inl, fun q => q.elim id (fun ⟨i', a, b, _⟩ => by omega)⟩⟩
  | succ t ih =>
    intro i f m hi hf2 hm
    obtain ⟨f, rfl⟩ : ∃ k, f = k + 1 := ⟨f - 1, by omega⟩
    by_cases c : X.testBit i = true
    · have e := wl_has1 (show X < 2147483648 by omega) (show i < 31 by omega) c τ
      obtain ⟨m', g1, g2, g3⟩ := ih (i + 1) f m (by omega) (by omega) hm
      refine ⟨m', g1, by simp -implicitDefEqProofs (disch := omega) only [e_X12_findsLate_35, e_X12_findsLate_35__1, e_X12_findsLate_35__2, e_X12_findsLate_35__3, e_X12_findsLate_35__4, e_X12_findsLate_35__5, e_X12_findsLate_64, e_X12_findsLate_64__1, h53, e, wx_bd, wx_let, wx_st, wx_lit, wx_ga, wx_sa, pk_mul, nI_add, wx_le, wx_lt, wx_eq, wx_en, wx_ne', wx_nn, wx_ltn, wx_len, wx_nlt, wx_nle, wx_bz0, wx_bz1, if_pos, if_neg, wx_ite, Nat.reduceEqDiff, eq_self, if_true, if_false, not_true_eq_false, not_false_eq_true]; exact g2, fun x hx => (g3 x hx).trans (or_congr Iff.rfl ⟨fun ⟨i', a, b, r⟩ => ⟨i', by omega, b, r⟩, fun ⟨i', a, b, r1, r2⟩ => ⟨i', ?_, b, r1, r2⟩⟩)⟩
      rcases Nat.eq_or_lt_of_le a with q | q
      · subst q; rw [c] at r1; cases r1
      · omega
    · have e := wl_has0 (show X < 2147483648 by omega) (show i < 31 by omega) c τ
      have c' : X.testBit i = false := by simpa using c
      obtain ⟨L, l1, l2, l3⟩ := hf (X ||| 2 ^ i) (wx_or_gt c') (wx_or_lt hX (by omega))
      have lb := wl_lb H (show X < 128 by omega) (show i < N by omega) l1 l2
      have bd := wHs_bd (p := fun j => X.testBit j) (h := h) (B := 24) (k := N) (fun j q => (hj j q).2.1)
      have hi2 := (hj i (by omega)).2.1
      have ls := wl_lesr (show m < 2147483648 by omega) (show max L (wHs (fun j => X.testBit j) h N + h i - d i) < 2147483648 by omega) τ
      obtain ⟨m', g1, g2, g3⟩ := ih (i + 1) f (min m (max L (wHs (fun j => X.testBit j) h N + h i - d i))) (by omega) (by omega) (by omega)
      refine ⟨m', by omega, by simp -implicitDefEqProofs (disch := omega) only [e_X12_findsLate_35, e_X12_findsLate_35__1, e_X12_findsLate_35__2, e_X12_findsLate_35__3, e_X12_findsLate_35__4, e_X12_findsLate_35__5, e_X12_findsLate_64, e_X12_findsLate_64__1, h53, e, lb, ls, wx_bd, wx_let, wx_st, wx_lit, wx_ga, wx_sa, pk_mul, nI_add, wx_le, wx_lt, wx_eq, wx_en, wx_ne', wx_nn, wx_ltn, wx_len, wx_nlt, wx_nle, wx_bz0, wx_bz1, if_pos, if_neg, wx_ite, Nat.reduceEqDiff, eq_self, if_true, if_false, not_true_eq_false, not_false_eq_true]; exact g2, fun x hx => (g3 x hx).trans ⟨?_, ?_⟩⟩
      · rintro (q | ⟨i', a, b, r⟩)
        · by_cases qm : m ≤ x
          · exact Or.inl qm
          · have q1 : L ≤ x := by omega
            exact Or.inr ⟨i, Nat.le_refl _, by omega, c', by omega, (l3 x hx).1 q1⟩
        · exact Or.inr ⟨i', by omega, b, r⟩
      · rintro (q | ⟨i', a, b, r1, r2, r3⟩)
        · exact Or.inl (by omega)
        · rcases Nat.eq_or_lt_of_le a with q | q
          · subst q
            have := (l3 x hx).2 r3
            exact Or.inl (by omega)
          · exact Or.inr ⟨i', by omega, b, r1, r2, r3⟩
set_option maxHeartbeats 1000000 in
theorem wx_full {X N : Nat} (hX : X < 2 ^ N) (h : ∀ j, j < N → X.testBit j = true) : X = 2 ^ N - 1 := by
  apply Nat.eq_of_testBit_eq
  intro i
  rw [Nat.testBit_two_pow_sub_one]
  by_cases c : i < N
  · rw [h i c]; simp [c]
  · have : X.testBit i = false := Nat.testBit_lt_two_pow (Nat.lt_of_lt_of_le hX (Nat.pow_le_pow_right (by decide) (by omega)))
    rw [this]; simp [c]
set_option maxHeartbeats 1000000 in
theorem wl_fl9 : ∀ X f τ, wHm h d N τ → X ≤ 2 ^ N → X < f → wHf h d N X τ → ∃ τ', f_X12_findsLate_9 f 0 (nI X + -nI 1) τ = some (nI 0, τ') ∧ (∀ a, a ≠ 32 → τ' a = τ a) ∧ wHf h d N 0 τ' := by
  intro X
  induction X with
  | zero =>
    intro f τ H hX hf hF
    obtain ⟨f, rfl⟩ : ∃ k, f = k + 1 := ⟨f - 1, by omega⟩
    have e : nI 0 + -nI 1 = -nI 1 := by decide
    have l : -nI 1 < nI 0 := by decide
    exact ⟨τ, by simp -implicitDefEqProofs (disch := omega) only [e_X12_findsLate_9, e, l, wx_bd, wx_let, wx_st, wx_lit, wx_ga, wx_sa, pk_mul, nI_add, wx_le, wx_lt, wx_eq, wx_en, wx_ne', wx_nn, wx_ltn, wx_len, wx_nlt, wx_nle, wx_bz0, wx_bz1, if_pos, if_neg, wx_ite, Nat.reduceEqDiff, eq_self, if_true, if_false, not_true_eq_false, not_false_eq_true], fun _ _ => rfl, hF⟩
  | succ X ih =>
    intro f τ H hX hf hF
    obtain ⟨f, rfl⟩ : ∃ k, f = k + 1 := ⟨f - 1, by omega⟩
    obtain ⟨hN, h53, hj⟩ := id H
    have h2 : 2 ^ N ≤ 2 ^ 7 := Nat.pow_le_pow_right (by omega) hN
    have e1 : nI (X + 1) + -nI 1 = nI X := sb_m1 (by omega)
    have sh := wx_shl8 N (by omega)
    have sb : nI (2 ^ N) - nI 1 = nI (2 ^ N - 1) := wx_sub (Nat.two_pow_pos N)
    have key : ∀ m0, m0 ≤ 100000000 → f_X12_findsLate_9 (f + 1) 0 (nI (X + 1) + -nI 1) τ = f_X12_findsLate_35 (f_X12_findsLate_9 f) wg_N 0 (nI X) (nI m0) (nI 0) τ → (∀ x, x ≤ 1000 → ((m0 ≤ x ∨ ∃ i', 0 ≤ i' ∧ i' < N ∧ X.testBit i' = false ∧ wHs (fun j => X.testBit j) h N + h i' ≤ d i' + x ∧ wHP h d N (X ||| 2 ^ i') x) ↔ wHP h d N X x)) → ∃ τ', f_X12_findsLate_9 (f + 1) 0 (nI (X + 1) + -nI 1) τ = some (nI 0, τ') ∧ (∀ a, a ≠ 32 → τ' a = τ a) ∧ wHf h d N 0 τ' := fun m0 hm0 st hx => by
      obtain ⟨m', g1, g2, g3⟩ := wl_fl35 H (show X < 2 ^ N by omega) hF (f_X12_findsLate_9 f) N 0 wg_N m0 (by omega) (by rw [wx_N]; omega) hm0
      have H' : wHm h d N (wg_u τ 32 X (nI m')) := ⟨hN, by rw [wx_un (by omega)]; exact h53, fun j q => by rw [wx_un (by omega), wx_un (by omega)]; exact hj j q⟩
      have m1000 : m' ≤ 1000 := (g3 1000 (Nat.le_refl _)).2 ((hx 1000 (Nat.le_refl _)).2 (wHP_big (fun j q => (hj j q).2.1) hN))
      obtain ⟨τ', k1, k2, k3⟩ := ih f (wg_u τ 32 X (nI m')) H' (by omega) (by omega) (fun S h1 h2 => by
        by_cases e : S = X
        · subst e
          exact ⟨m', by rw [wx_uk, pk_us], m1000, fun x q => (g3 x q).trans (hx x q)⟩
        · rw [wx_uk, pk_un e]
          exact hF S (by omega) h2)
      exact ⟨τ', by rw [st, g2]; exact k1, fun a ha => by rw [k2 a ha, wx_un ha], k3⟩
    by_cases c : X = 2 ^ N - 1
    · refine key 0 (by omega) ?_ (fun x hx => ⟨fun _ => wHP_full (fun j q => ?_), fun _ => Or.inl (by omega)⟩)
      · simp -implicitDefEqProofs (disch := omega) only [e_X12_findsLate_9, e_X12_findsLate_32, e1, h53, sh, sb, wx_bd, wx_let, wx_st, wx_lit, wx_ga, wx_sa, pk_mul, nI_add, wx_le, wx_lt, wx_eq, wx_en, wx_ne', wx_nn, wx_ltn, wx_len, wx_nlt, wx_nle, wx_bz0, wx_bz1, if_pos, if_neg, wx_ite, Nat.reduceEqDiff, eq_self, if_true, if_false, not_true_eq_false, not_false_eq_true]
      · rw [c, Nat.testBit_two_pow_sub_one]; simpa using q
    · refine key 100000000 (by omega) ?_ (fun x hx => ?_)
      · simp -implicitDefEqProofs (disch := omega) only [e_X12_findsLate_9, e_X12_findsLate_32, e1, h53, sh, sb, wx_bd, wx_let, wx_st, wx_lit, wx_ga, wx_sa, pk_mul, nI_add, wx_le, wx_lt, wx_eq, wx_en, wx_ne', wx_nn, wx_ltn, wx_len, wx_nlt, wx_nle, wx_bz0, wx_bz1, if_pos, if_neg, wx_ite, Nat.reduceEqDiff, eq_self, if_true, if_false, not_true_eq_false, not_false_eq_true]
      · have nf : ∃ j, j < N ∧ X.testBit j = false := by
          by_cases q : ∃ j, j < N ∧ X.testBit j = false
          · exact q
          · exact (c (wx_full (by omega) (fun j hj => by
              cases e : X.testBit j
              · exact (q ⟨j, hj, e⟩).elim
              · rfl))).elim
        rw [wHP_step (fun j q => (hj j q).2.2.2) nf]
        constructor
        · rintro (q | ⟨i', -, r⟩)
          · omega
          · exact ⟨i', r⟩
        · rintro ⟨i', r⟩
          exact Or.inr ⟨i', Nat.zero_le _, r⟩
set_option maxHeartbeats 1000000 in
theorem wl_findsLate (H : wHm h d N τ) : ∃ τ', f_X12_findsLate 0 τ = some (nI 0, τ') ∧ (∀ a, a ≠ 32 → τ' a = τ a) ∧ wHf h d N 0 τ' := by
  have hN := H.1
  have h2 : 2 ^ N ≤ 2 ^ 7 := Nat.pow_le_pow_right (by omega) hN
  obtain ⟨τ', g1, g2, g3⟩ := wl_fl9 (2 ^ N) wg_N τ H (Nat.le_refl _) (by rw [wx_N]; omega) (fun S h1 h2 => by omega)
  have sh := wx_shl8 N (by omega)
  have e : nI (2 ^ N) - nI 1 = nI (2 ^ N) + -nI 1 := Int32.sub_eq_add_neg _ _
  refine ⟨τ', ?_, g2, g3⟩
  simp -implicitDefEqProofs (disch := omega) only [e_X12_findsLate, H.2.1, sh, e, wx_bd, wx_let, wx_st, wx_lit, wx_ga, wx_sa, pk_mul, nI_add, wx_le, wx_lt, wx_eq, wx_en, wx_ne', wx_nn, wx_ltn, wx_len, wx_nlt, wx_nle, wx_bz0, wx_bz1, if_pos, if_neg, wx_ite, Nat.reduceEqDiff, eq_self, if_true, if_false, not_true_eq_false, not_false_eq_true]
  exact g1
end HM

/-! RULES go -/
set_option maxHeartbeats 1000000 in
theorem wl_goes_l {w k : Nat} (hw : w < 8) (hk1 : 1 ≤ k) (hk8 : k ≤ 8) : ∀ d x n τ, x + d = 75 + 24 * w + 3 * (k - 1) → 75 + 24 * w ≤ x → τ 1 (67 + w) = nI k → d < n → ∃ τ', f_X12_goesRule_7 n 0 (nI w) (nI x) τ = some (nI 0, τ') ∧ (∀ a, a ≠ 1 → τ' a = τ a) ∧ τ' 1 (67 + w) = nI (k - 1) ∧ ∀ y, y ≠ 67 + w → τ' 1 y = if x ≤ y ∧ y < 75 + 24 * w + 3 * (k - 1) then τ 1 (y + 3) else τ 1 y := by
  have ek : nI k - nI 1 = nI (k - 1) := pk_sub hk1
  intro d
  induction d with
  | zero =>
    intro x n τ hx hx2 hk hn
    obtain ⟨n, rfl⟩ : ∃ k, n = k + 1 := ⟨n - 1, by omega⟩
    refine ⟨wg_u τ 1 (67 + w) (nI (k - 1)), ?_, fun a ha => wx_un ha, by simp -implicitDefEqProofs (disch := omega) only [wx_uk, wx_un, pk_us, pk_un], fun y hy => ?_⟩
    · simp -implicitDefEqProofs (disch := omega) only [e_X12_goesRule_7, e_X12_goesRule_7__1, e_X12_goesRule_7__2, e_X12_goesRule_7__3, e_X12_goesRule_7__4, e_X12_goesRule_7__5, e_X12_goesRule_7__6, e_X12_goesRule_7__7, e_X12_ruleAt, hk, ek, wx_bd, wx_let, wx_st, wx_lit, wx_ga, wx_sa, pk_mul, nI_add, wx_le, wx_lt, wx_eq, wx_en, wx_ne', wx_nn, wx_ltn, wx_len, wx_nlt, wx_nle, wx_bz0, wx_bz1, if_pos, if_neg, wx_ite, Nat.reduceEqDiff, eq_self, if_true, if_false, not_true_eq_false, not_false_eq_true]
    · rw [if_neg (by omega)]
      simp -implicitDefEqProofs (disch := omega) only [wx_uk, wx_un, pk_us, pk_un]
  | succ d ih =>
    intro x n τ hx hx2 hk hn
    obtain ⟨n, rfl⟩ : ∃ k, n = k + 1 := ⟨n - 1, by omega⟩
    obtain ⟨τ', r1, r2, r3, r4⟩ := ih (x + 1) n (wg_u τ 1 x (τ 1 (x + 3))) (by omega) (by omega) (by simp -implicitDefEqProofs (disch := omega) only [wx_uk, wx_un, pk_us, pk_un]; exact hk) (by omega)
    refine ⟨τ', ?_, fun a ha => (r2 a ha).trans (wx_un ha), r3, fun y hy => ?_⟩
    · simp -implicitDefEqProofs (disch := omega) only [e_X12_goesRule_7, e_X12_goesRule_7__1, e_X12_goesRule_7__2, e_X12_goesRule_7__3, e_X12_goesRule_7__4, e_X12_goesRule_7__5, e_X12_goesRule_7__6, e_X12_goesRule_7__7, e_X12_ruleAt, hk, ek, wx_bd, wx_let, wx_st, wx_lit, wx_ga, wx_sa, pk_mul, nI_add, wx_le, wx_lt, wx_eq, wx_en, wx_ne', wx_nn, wx_ltn, wx_len, wx_nlt, wx_nle, wx_bz0, wx_bz1, if_pos, if_neg, wx_ite, Nat.reduceEqDiff, eq_self, if_true, if_false, not_true_eq_false, not_false_eq_true]
      exact r1
    · rw [r4 y hy]
      by_cases c : y = x
      · subst c
        rw [if_neg (by omega), if_pos (by omega), wx_uk, pk_us]
      · by_cases c2 : x + 1 ≤ y ∧ y < 75 + 24 * w + 3 * (k - 1)
        · rw [if_pos c2, if_pos (by omega), wx_uk, pk_un (by omega)]
        · rw [if_neg c2, if_neg (by omega), wx_uk, pk_un (by omega)]
set_option maxHeartbeats 1000000 in
theorem wl_goes {w k i : Nat} {τ : wg_M} (hw : w < 8) (hi : i < k) (hk8 : k ≤ 8) (hk : τ 1 (67 + w) = nI k) : ∃ τ', f_X12_goesRule 0 (nI w) (nI i) τ = some (nI 0, τ') ∧ (∀ a, a ≠ 1 → τ' a = τ a) ∧ τ' 1 (67 + w) = nI (k - 1) ∧ (∀ y, y ≠ 67 + w → (y < 75 + 24 * w ∨ 75 + 24 * w + 24 ≤ y) → τ' 1 y = τ 1 y) ∧ (∀ j a, a < 3 → j < i → τ' 1 (75 + 24 * w + 3 * j + a) = τ 1 (75 + 24 * w + 3 * j + a)) ∧ ∀ j a, a < 3 → i ≤ j → j + 1 < k → τ' 1 (75 + 24 * w + 3 * j + a) = τ 1 (75 + 24 * w + 3 * (j + 1) + a) := by
  obtain ⟨τ', r1, r2, r3, r4⟩ := wl_goes_l hw (k := k) (by omega) hk8 (3 * (k - 1 - i)) (75 + 24 * w + 3 * i) wg_N τ (by omega) (by omega) hk (by rw [wx_N]; omega)
  refine ⟨τ', ?_, r2, r3, fun y h1 h2 => ?_, fun j a h1 h2 => ?_, fun j a h1 h2 h3 => ?_⟩
  · simp -implicitDefEqProofs (disch := omega) only [e_X12_goesRule, e_X12_goesRule__1, e_X12_ruleAt, wx_bd, wx_let, wx_st, wx_lit, wx_ga, wx_sa, pk_mul, nI_add, wx_le, wx_lt, wx_eq, wx_en, wx_ne', wx_nn, wx_ltn, wx_len, wx_nlt, wx_nle, wx_bz0, wx_bz1, if_pos, if_neg, wx_ite, Nat.reduceEqDiff, eq_self, if_true, if_false, not_true_eq_false, not_false_eq_true]
    exact r1
  · rw [r4 y h1, if_neg (by omega)]
  · rw [r4 _ (by omega), if_neg (by omega)]
  · rw [r4 _ (by omega), if_pos (by omega), show 75 + 24 * w + 3 * j + a + 3 = 75 + 24 * w + 3 * (j + 1) + a by omega]
set_option maxHeartbeats 1000000 in
theorem wl_move {x y : Nat} (hx : x < 64) (hy : y < 64) (σ : wg_M) : f_X9_moveRule 2 (nI x) (nI y) σ = some (nI 0, wg_u (wg_u (wg_u σ 8 y (σ 8 x)) 9 y (σ 9 x)) 10 y (σ 10 x)) := by
  simp -implicitDefEqProofs (disch := omega) only [e_X9_moveRule, e_X9_moveRule__1, e_X9_moveRule__2, e_X9_moveRule__3, e_X9_moveRule__4, e_X9_moveRule__5, e_X9_moveRule__6, wx_un, wx_bd, wx_let, wx_st, wx_lit, wx_ga, wx_sa, pk_mul, nI_add, wx_le, wx_lt, wx_eq, wx_en, wx_ne', wx_nn, wx_ltn, wx_len, wx_nlt, wx_nle, wx_bz0, wx_bz1, if_pos, if_neg, wx_ite, Nat.reduceEqDiff, eq_self, if_true, if_false, not_true_eq_false, not_false_eq_true]
set_option maxHeartbeats 1000000 in
/-- a drop of one, on the class's side, up to its itch -/
theorem wl_drop_l {w k : Nat} (hw : w < 8) (hk1 : 1 ≤ k) (hk8 : k ≤ 8) : ∀ d x n σ, x + d = w * 8 + (k - 1) → w * 8 ≤ x → σ 7 w = nI k → d < n → ∃ σ', (∀ a, a ≠ 7 → a ≠ 8 → a ≠ 9 → a ≠ 10 → σ' a = σ a) ∧ (∀ v, v ≠ w → σ' 7 v = σ 7 v) ∧ σ' 7 w = nI (k - 1) ∧ (∀ a y, a = 8 ∨ a = 9 ∨ a = 10 → σ' a y = if x ≤ y ∧ y < w * 8 + (k - 1) then σ a (y + 1) else σ a y) ∧ ∀ s, f_X9_itchAnew 2 (nI w) σ' = some (nI 0, s) → f_X9_dropRule_22 n 2 (nI w) (nI (w * 8 + (k - 1))) (nI x) σ = some (nI 0, s) := by
  have ek : nI k - nI 1 = nI (k - 1) := pk_sub hk1
  intro d
  induction d with
  | zero =>
    intro x n σ hx hx2 hk hn
    obtain ⟨n, rfl⟩ : ∃ k, n = k + 1 := ⟨n - 1, by omega⟩
    refine ⟨wg_u σ 7 w (nI (k - 1)), fun a h1 _ _ _ => wx_un h1, fun v hv => by simp -implicitDefEqProofs (disch := omega) only [wx_uk, wx_un, pk_us, pk_un], by simp -implicitDefEqProofs (disch := omega) only [wx_uk, wx_un, pk_us, pk_un], fun a y ha => ?_, fun s hs => ?_⟩
    · rw [if_neg (by omega), wx_un (by omega)]
    · simp -implicitDefEqProofs (disch := omega) only [e_X9_dropRule_22, e_X9_dropRule_22__1, e_X9_dropRule_22__2, e_X9_dropRule_22__3, e_X9_dropRule_22__4, e_X9_dropRule_22__5, hk, ek, hs, wx_bd, wx_let, wx_st, wx_lit, wx_ga, wx_sa, pk_mul, nI_add, wx_le, wx_lt, wx_eq, wx_en, wx_ne', wx_nn, wx_ltn, wx_len, wx_nlt, wx_nle, wx_bz0, wx_bz1, if_pos, if_neg, wx_ite, Nat.reduceEqDiff, eq_self, if_true, if_false, not_true_eq_false, not_false_eq_true]
  | succ d ih =>
    intro x n σ hx hx2 hk hn
    obtain ⟨n, rfl⟩ : ∃ k, n = k + 1 := ⟨n - 1, by omega⟩
    obtain ⟨σ', r1, r2, r3, r4, r5⟩ := ih (x + 1) n (wg_u (wg_u (wg_u σ 8 x (σ 8 (x + 1))) 9 x (σ 9 (x + 1))) 10 x (σ 10 (x + 1))) (by omega) (by omega) (by simp -implicitDefEqProofs (disch := omega) only [wx_uk, wx_un, pk_us, pk_un]; exact hk) (by omega)
    refine ⟨σ', fun a h1 h2 h3 h4 => ?_, fun v hv => ?_, r3, fun a y ha => ?_, fun s hs => ?_⟩
    · rw [r1 a h1 h2 h3 h4]; simp -implicitDefEqProofs (disch := omega) only [wx_uk, wx_un, pk_us, pk_un]
    · rw [r2 v hv]; simp -implicitDefEqProofs (disch := omega) only [wx_uk, wx_un, pk_us, pk_un]
    · rw [r4 a y ha]
      by_cases c : y = x
      · subst c
        rw [if_neg (by omega), if_pos (by omega)]
        rcases ha with rfl | rfl | rfl <;> simp -implicitDefEqProofs (disch := omega) only [wx_uk, wx_un, pk_us, pk_un]
      · by_cases c2 : x + 1 ≤ y ∧ y < w * 8 + (k - 1)
        · rw [if_pos c2, if_pos (by omega)]
          rcases ha with rfl | rfl | rfl <;> simp -implicitDefEqProofs (disch := omega) only [wx_uk, wx_un, pk_us, pk_un]
        · rw [if_neg c2, if_neg (by omega)]
          rcases ha with rfl | rfl | rfl <;> simp -implicitDefEqProofs (disch := omega) only [wx_uk, wx_un, pk_us, pk_un]
    · have := r5 s hs
      simp -implicitDefEqProofs (disch := omega) only [e_X9_dropRule_22, e_X9_dropRule_22__1, e_X9_dropRule_22__2, e_X9_dropRule_22__3, e_X9_dropRule_22__4, e_X9_dropRule_22__5, wl_move, wx_bd, wx_let, wx_st, wx_lit, wx_ga, wx_sa, pk_mul, nI_add, wx_le, wx_lt, wx_eq, wx_en, wx_ne', wx_nn, wx_ltn, wx_len, wx_nlt, wx_nle, wx_bz0, wx_bz1, if_pos, if_neg, wx_ite, Nat.reduceEqDiff, eq_self, if_true, if_false, not_true_eq_false, not_false_eq_true]
      exact this
section DR
variable {nw nj nc : Nat} {σ τ : wg_M}
set_option maxHeartbeats 1000000 in
/-- what is left of a WIG's RULES: row x of both sides after is row f x before -/
theorem wl_left {σ' τ' : wg_M} (h : wB nw nj nc σ 1 (τ 1) τ) (hN : wN nw nj nc τ) {w k k' : Nat} (hw : w < nw) (hk : τ 1 (67 + w) = nI k) (hk8 : k ≤ 8) (hk' : k' ≤ 8) (f : Nat → Nat) (hf : ∀ x, x < k' → f x < k)
    (c1 : ∀ a, a < 4 ∨ a = 4 ∨ a = 5 ∨ a = 6 ∨ 10 < a → σ' a = σ a) (c2 : ∀ v, v ≠ w → σ' 7 v = σ 7 v) (c3 : σ' 7 w = nI k') (c4 : ∀ a v i, a = 8 ∨ a = 9 ∨ a = 10 → v ≠ w → i < 8 → σ' a (v * 8 + i) = σ a (v * 8 + i)) (c5 : ∀ a x, a = 8 ∨ a = 9 ∨ a = 10 → x < k' → σ' a (w * 8 + x) = σ a (w * 8 + f x))
    (m1 : ∀ a, a ≠ 1 → τ' a = τ a) (m2 : τ' 1 (67 + w) = nI k') (m3 : ∀ y, y ≠ 67 + w → (y < 75 + 24 * w ∨ 75 + 24 * w + 24 ≤ y) → τ' 1 y = τ 1 y) (m4 : ∀ x a, a < 3 → x < k' → τ' 1 (75 + 24 * w + 3 * x + a) = τ 1 (75 + 24 * w + 3 * f x + a)) :
    ∃ σ2 τ2 V, σ2 = wg_u σ' 5 w V ∧ τ2 = wg_u τ' 1 (51 + w) V ∧ f_X9_itchAnew 2 (nI w) σ' = some (nI 0, σ2) ∧ f_X12_itches 0 (nI w) τ' = some (nI 0, τ2) ∧ wB nw nj nc σ2 1 (τ2 1) τ2 ∧ wGc σ σ2 ∧ wGm τ τ2 ∧ τ2 1 (67 + w) = nI k' := by
  obtain ⟨n1, n2, n3, n4, n5, n6⟩ := id hN
  have SU : ∀ x, x < k' → wU σ' 1 (τ' 1) w x := by
    intro x hx
    have u := wb_ru h hw hk hk8 (hf x hx)
    unfold wU at u ⊢
    simp only [Nat.reduceAdd] at u ⊢
    have q0 := m4 x 0 (by omega) hx
    have q1 := m4 x 1 (by omega) hx
    have q2 := m4 x 2 (by omega) hx
    simp only [Nat.add_zero] at q0
    rw [c5 8 x (by omega) hx, c5 9 x (by omega) hx, c5 10 x (by omega) hx, q0, q1, q2]
    exact u
  have ic := wl_itchC (σ := σ') (w := w) (k := k') (by omega) c3 hk' (fun i hi => by
    obtain ⟨u1, -, -, ⟨c', d1, d2⟩, -⟩ := SU i hi
    exact ⟨c', d1, u1.trans d2⟩)
  have im := wl_itchM (τ := τ') (w := w) (k := k') (by omega) m2 hk'
  have ev : wit (fun i => σ' 8 (w * 8 + i)) (fun i => σ' 9 (w * 8 + i)) k' = wit (fun i => τ' 1 (75 + 24 * w + 3 * i)) (fun i => τ' 1 (75 + 24 * w + 3 * i + 1)) k' :=
    wit_cg (fun i hi => (SU i hi).1) (fun i hi => (SU i hi).2.1)
  rw [ev] at ic
  generalize wit (fun i => τ' 1 (75 + 24 * w + 3 * i)) (fun i => τ' 1 (75 + 24 * w + 3 * i + 1)) k' = V at ic im
  have gc : wGc σ (wg_u σ' 5 w V) := fun a ha => by rw [wx_un (by omega)]; exact c1 a (by omega)
  have gm : wGm τ (wg_u τ' 1 (51 + w) V) := ⟨fun a ha => by rw [wx_un ha]; exact m1 a ha, fun x hx => by
    simp -implicitDefEqProofs (disch := omega) only [wx_uk, wx_un, pk_us, pk_un]; exact m3 x (by omega) (by omega)⟩
  refine ⟨_, _, V, rfl, rfl, ic, im, ?_, gc, gm, by simp -implicitDefEqProofs (disch := omega) only [wx_uk, wx_un, pk_us, pk_un]; exact m2⟩
  refine wB_wig (w := w) ⟨n1, n2, n3⟩ h gc gm (fun a v' q1 q2 q3 => ?_) (fun a v' i q1 q2 q3 q4 => ?_) (fun v' x q1 q2 q3 => ?_) ?_
  · rcases (show a = 4 ∨ a = 5 ∨ a = 6 ∨ a = 7 by omega) with rfl | rfl | rfl | rfl
    · rw [wx_un (by omega), c1 4 (by omega)]
    · rw [wx_uk, pk_un q3, c1 5 (by omega)]
    · rw [wx_un (by omega), c1 6 (by omega)]
    · rw [wx_un (by omega), c2 v' q3]
  · rw [wx_un (by omega)]
    exact c4 a v' i (by omega) q3 q4
  · simp -implicitDefEqProofs (disch := omega) only [wx_uk, wx_un, pk_us, pk_un]
    exact m3 x (by omega) (by omega)
  · refine ⟨?_, ?_, ?_, ?_, ?_, k', hk', ?_, fun i hi => ?_⟩
    · simp -implicitDefEqProofs (disch := omega) only [Nat.reduceAdd, wx_uk, wx_un, pk_us, pk_un, c1, m1]; exact wb_colour h hw
    · simp -implicitDefEqProofs (disch := omega) only [Nat.reduceAdd, wx_uk, wx_un, pk_us, pk_un, c1, m3]; exact wb_hair h hw
    · simp -implicitDefEqProofs (disch := omega) only [Nat.reduceAdd, wx_uk, wx_un, pk_us, pk_un]
    · simp -implicitDefEqProofs (disch := omega) only [Nat.reduceAdd, wx_uk, wx_un, pk_us, pk_un, c1, m3]; exact wb_lent h hw
    · simp -implicitDefEqProofs (disch := omega) only [Nat.reduceAdd, wx_uk, wx_un, pk_us, pk_un]; rw [c3, m2]
    · simp -implicitDefEqProofs (disch := omega) only [Nat.reduceAdd, wx_uk, wx_un, pk_us, pk_un]; exact m2
    · have := SU i hi
      unfold wU at this ⊢
      simp -implicitDefEqProofs (disch := omega) only [Nat.reduceAdd, wx_uk, wx_un, pk_us, pk_un] at this ⊢
      exact this
set_option maxHeartbeats 1000000 in
theorem wl_drop (h : wB nw nj nc σ 1 (τ 1) τ) (hN : wN nw nj nc τ) {w k i : Nat} (hw : w < nw) (hk : τ 1 (67 + w) = nI k) (hk8 : k ≤ 8) (hi : i < k) : ∃ σ2 τ1 τ2 V, f_X9_dropRule 2 (nI w) (nI i) σ = some (nI 0, σ2) ∧ f_X12_goesRule 0 (nI w) (nI i) τ = some (nI 0, τ1) ∧ f_X12_itches 0 (nI w) τ1 = some (nI 0, τ2) ∧ τ2 = wg_u τ1 1 (51 + w) V ∧ wB nw nj nc σ2 1 (τ2 1) τ2 ∧ wGc σ σ2 ∧ wGm τ τ2 ∧ τ2 1 (67 + w) = nI (k - 1) := by
  have hn8 := hN.1
  have e7 := wb_rules h hw
  rw [hk] at e7
  obtain ⟨σ', r1, r2, r3, r4, r5⟩ := wl_drop_l (w := w) (k := k) (by omega) (by omega) hk8 (k - 1 - i) (w * 8 + i) wg_N σ (by omega) (by omega) e7 (by rw [wx_N]; omega)
  obtain ⟨τ', s1, s2, s3, s4, s5, s6⟩ := wl_goes (w := w) (k := k) (i := i) (τ := τ) (by omega) hi hk8 hk
  obtain ⟨σ2, τ2, V, t0, t1, t2, t3, t4, t5, t6, t7⟩ := wl_left (σ' := σ') (τ' := τ') h hN hw hk hk8 (k' := k - 1) (by omega) (fun x => if x < i then x else x + 1) (fun x hx => by split <;> omega) (fun a ha => r1 a (by omega) (by omega) (by omega) (by omega)) r2 r3 (fun a v j ha hv hj => by rw [r4 a _ ha, if_neg (by omega)]) (fun a x ha hx => by
      rw [r4 a _ ha]
      by_cases c : x < i
      · rw [if_neg (by omega), if_pos c]
      · rw [if_pos (by omega), if_neg c]; rfl) s2 s3 s4 (fun x a ha hx => by
      by_cases c : x < i
      · rw [if_pos c]; exact s5 x a ha c
      · rw [if_neg c]; exact s6 x a ha (by omega) (by omega))
  refine ⟨σ2, τ', τ2, V, ?_, s1, t3, t1, t4, t5, t6, t7⟩
  have ex : nI (w * 8 + k) - nI 1 = nI (w * 8 + (k - 1)) := by rw [pk_sub (by omega), show w * 8 + k - 1 = w * 8 + (k - 1) by omega]
  simp -implicitDefEqProofs (disch := omega) only [e_X9_dropRule, e_X9_dropRule__1, e_X9_dropRule__2, e_X9_dropRule__3, e7, ex, wx_bd, wx_let, wx_st, wx_lit, wx_ga, wx_sa, pk_mul, nI_add, wx_le, wx_lt, wx_eq, wx_en, wx_ne', wx_nn, wx_ltn, wx_len, wx_nlt, wx_nle, wx_bz0, wx_bz1, if_pos, if_neg, wx_ite, Nat.reduceEqDiff, eq_self, if_true, if_false, not_true_eq_false, not_false_eq_true]
  exact r5 σ2 t2
set_option maxHeartbeats 1000000 in
/-- a RULE comes after an itch, as without it -/
theorem wl_comes_itch {w k c : Nat} {v V : Int32} {g : Int32} (hw : w < 8) (hk : τ 1 (67 + w) = nI k) (hk8 : k < 8) : f_X12_comesRule 0 (nI w) (nI c) v g (wg_u τ 1 (51 + w) V) = f_X12_comesRule 0 (nI w) (nI c) v g τ := by
  obtain ⟨A, hA⟩ : ∃ A, A = wg_u (wg_u (wg_u (wg_u τ 1 (75 + 24 * w + 3 * k) (nI c)) 1 (75 + 24 * w + 3 * k + 1) v) 1 (75 + 24 * w + 3 * k + 2) g) 1 (67 + w) (nI (k + 1)) := ⟨_, rfl⟩
  obtain ⟨B, hB⟩ : ∃ B, B = wg_u (wg_u (wg_u (wg_u (wg_u τ 1 (51 + w) V) 1 (75 + 24 * w + 3 * k) (nI c)) 1 (75 + 24 * w + 3 * k + 1) v) 1 (75 + 24 * w + 3 * k + 2) g) 1 (67 + w) (nI (k + 1)) := ⟨_, rfl⟩
  have i1 := wl_itchM (τ := A) (w := w) (k := k + 1) hw (by rw [hA]; simp -implicitDefEqProofs (disch := omega) only [wx_uk, wx_un, pk_us, pk_un]) (by omega)
  have i2 := wl_itchM (τ := B) (w := w) (k := k + 1) hw (by rw [hB]; simp -implicitDefEqProofs (disch := omega) only [wx_uk, wx_un, pk_us, pk_un]) (by omega)
  have ev : ∀ y, y ≠ 51 + w → B 1 y = A 1 y := by
    intro y hy
    rw [hA, hB]
    simp only [wg_u, upd, if_true]
    repeat' split
    all_goals first | rfl | omega
  have ec : wit (fun i => B 1 (75 + 24 * w + 3 * i)) (fun i => B 1 (75 + 24 * w + 3 * i + 1)) (k + 1) = wit (fun i => A 1 (75 + 24 * w + 3 * i)) (fun i => A 1 (75 + 24 * w + 3 * i + 1)) (k + 1) := wit_cg (fun i hi => ev _ (by omega)) (fun i hi => ev _ (by omega))
  rw [ec] at i2
  have c1 : f_X12_comesRule 0 (nI w) (nI c) v g (wg_u τ 1 (51 + w) V) = some (nI 0, wg_u B 1 (51 + w) (wit (fun i => A 1 (75 + 24 * w + 3 * i)) (fun i => A 1 (75 + 24 * w + 3 * i + 1)) (k + 1))) := by
    generalize wit (fun i => A 1 (75 + 24 * w + 3 * i)) (fun i => A 1 (75 + 24 * w + 3 * i + 1)) (k + 1) = W at i2 ⊢
    rw [hB] at i2 ⊢
    simp -implicitDefEqProofs (disch := omega) only [e_X12_comesRule, e_X12_comesRule__1, e_X12_comesRule__2, e_X12_comesRule__3, e_X12_comesRule__4, e_X12_comesRule__5, e_X12_comesRule__6, e_X12_comesRule__7, e_X12_comesRule__8, e_X12_ruleAt, hk, i2, wx_uk, wx_un, pk_us, pk_un, wx_bd, wx_let, wx_st, wx_lit, wx_ga, wx_sa, pk_mul, nI_add, wx_le, wx_lt, wx_eq, wx_en, wx_ne', wx_nn, wx_ltn, wx_len, wx_nlt, wx_nle, wx_bz0, wx_bz1, if_pos, if_neg, wx_ite, Nat.reduceEqDiff, eq_self, if_true, if_false, not_true_eq_false, not_false_eq_true]
  have c2 : f_X12_comesRule 0 (nI w) (nI c) v g τ = some (nI 0, wg_u A 1 (51 + w) (wit (fun i => A 1 (75 + 24 * w + 3 * i)) (fun i => A 1 (75 + 24 * w + 3 * i + 1)) (k + 1))) := by
    generalize wit (fun i => A 1 (75 + 24 * w + 3 * i)) (fun i => A 1 (75 + 24 * w + 3 * i + 1)) (k + 1) = W at i1 ⊢
    rw [hA] at i1 ⊢
    simp -implicitDefEqProofs (disch := omega) only [e_X12_comesRule, e_X12_comesRule__1, e_X12_comesRule__2, e_X12_comesRule__3, e_X12_comesRule__4, e_X12_comesRule__5, e_X12_comesRule__6, e_X12_comesRule__7, e_X12_comesRule__8, e_X12_ruleAt, hk, i1, wx_uk, wx_un, pk_us, pk_un, wx_bd, wx_let, wx_st, wx_lit, wx_ga, wx_sa, pk_mul, nI_add, wx_le, wx_lt, wx_eq, wx_en, wx_ne', wx_nn, wx_ltn, wx_len, wx_nlt, wx_nle, wx_bz0, wx_bz1, if_pos, if_neg, wx_ite, Nat.reduceEqDiff, eq_self, if_true, if_false, not_true_eq_false, not_false_eq_true]
  rw [c1, c2]
  congr 2
  funext a
  by_cases ha : a = 1
  · subst ha
    funext x
    rw [wx_uk, wx_uk]
    by_cases hx : x = 51 + w
    · subst hx; rw [pk_us, pk_us]
    · rw [pk_un hx, pk_un hx, ev x hx]
  · rw [wx_un ha, wx_un ha, hA, hB]
    simp -implicitDefEqProofs (disch := omega) only [wx_uk, wx_un, pk_us, pk_un]
end DR

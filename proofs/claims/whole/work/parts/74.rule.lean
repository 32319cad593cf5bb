/-! RULES come and go: a WIG alone is changed -/
def wGc (σ σ' : wg_M) : Prop := ∀ a, a < 4 ∨ 10 < a → σ' a = σ a
def wGm (τ τ' : wg_M) : Prop := (∀ a, a ≠ 1 → τ' a = τ a) ∧ ∀ x, x < 43 ∨ 267 ≤ x → τ' 1 x = τ 1 x
set_option maxHeartbeats 1000000 in
theorem wGc_rfl (σ : wg_M) : wGc σ σ := fun _ _ => rfl
set_option maxHeartbeats 1000000 in
theorem wGm_rfl (τ : wg_M) : wGm τ τ := ⟨fun _ _ => rfl, fun _ _ => rfl⟩
set_option maxHeartbeats 1000000 in
theorem wGc_tr {a b c : wg_M} (h1 : wGc a b) (h2 : wGc b c) : wGc a c := fun q p => (h2 q p).trans (h1 q p)
set_option maxHeartbeats 1000000 in
theorem wGm_tr {a b c : wg_M} (h1 : wGm a b) (h2 : wGm b c) : wGm a c := ⟨fun q p => (h2.1 q p).trans (h1.1 q p), fun q p => (h2.2 q p).trans (h1.2 q p)⟩
set_option maxHeartbeats 1000000 in
theorem wB_wig {nw nj nc : Nat} {σ σ' τ τ' : wg_M} {w : Nat} (hn : nw ≤ 8 ∧ nj ≤ 10 ∧ nc ≤ 14) (h : wB nw nj nc σ 1 (τ 1) τ) (hc : wGc σ σ') (hm : wGm τ τ') (h2 : ∀ a v, 4 ≤ a → a < 8 → v ≠ w → σ' a v = σ a v) (h3 : ∀ a v i, 8 ≤ a → a < 11 → v ≠ w → i < 8 → σ' a (v * 8 + i) = σ a (v * 8 + i)) (hr : ∀ v x, v ≠ w → v < 8 → (x = 43 + v ∨ x = 51 + v ∨ x = 59 + v ∨ x = 67 + v ∨ (75 + 24 * v ≤ x ∧ x < 75 + 24 * v + 24)) → τ' 1 x = τ 1 x) (hW : wW σ' 1 (τ' 1) τ' w) : wB nw nj nc σ' 1 (τ' 1) τ' := by
  obtain ⟨n1, n2, n3⟩ := hn
  obtain ⟨a1, a2, a3, a4, a5⟩ := h
  have e4 : τ' 4 = τ 4 := hm.1 4 (by omega)
  have e5 : τ' 5 = τ 5 := hm.1 5 (by omega)
  have e6 : τ' 6 = τ 6 := hm.1 6 (by omega)
  have e7 : τ' 7 = τ 7 := hm.1 7 (by omega)
  have hr' := hm.2
  refine ⟨?_, fun j hj => ?_, fun v hv => ?_, fun c hc2 => ?_, ?_⟩
  · have hσ : ∀ a, a < 4 → σ' a = σ a := fun a q => hc a (by omega)
    have hσ2 : σ' (1 + 10) = σ (1 + 10) := hc _ (by omega)
    simp -implicitDefEqProofs (disch := omega) only [hσ, hσ2, hr']
    exact a1
  · have := a2 j hj
    unfold wJ at this ⊢
    have g1 : σ' (1 + 11) = σ (1 + 11) := hc _ (by omega)
    have g2 : σ' (1 + 12) = σ (1 + 12) := hc _ (by omega)
    have g3 : σ' (1 + 13) = σ (1 + 13) := hc _ (by omega)
    have g4 : σ' (1 + 14) = σ (1 + 14) := hc _ (by omega)
    have g5 : σ' (1 + 15) = σ (1 + 15) := hc _ (by omega)
    simp -implicitDefEqProofs (disch := omega) only [g1, g2, g3, g4, g5, hr', e5]
    exact this
  · by_cases cv : v = w
    · subst cv; exact hW
    · obtain ⟨c1, c2, c3, c4, c5, k, c6, c7, c8⟩ := a3 v hv
      have g2 : σ' (1 + 2) = σ (1 + 2) := hc _ (by omega)
      have g3 : σ' (1 + 3) v = σ (1 + 3) v := h2 _ _ (by omega) (by omega) cv
      have g4 : σ' (1 + 4) v = σ (1 + 4) v := h2 _ _ (by omega) (by omega) cv
      have g5 : σ' (1 + 5) v = σ (1 + 5) v := h2 _ _ (by omega) (by omega) cv
      have g6 : σ' (1 + 6) v = σ (1 + 6) v := h2 _ _ (by omega) (by omega) cv
      have q1 := hr v (43 + v) cv (by omega) (by omega)
      have q2 := hr v (51 + v) cv (by omega) (by omega)
      have q3 := hr v (59 + v) cv (by omega) (by omega)
      have q4 := hr v (67 + v) cv (by omega) (by omega)
      refine ⟨by rw [g2, e4]; exact c1, by rw [g3, q1]; exact c2, by rw [g4, q2]; exact c3, by rw [g5, q3]; exact c4, by rw [g6, q4]; exact c5, k, c6, by rw [q4]; exact c7, fun i hi => ?_⟩
      have := c8 i hi
      unfold wU at this ⊢
      rw [h3 (1 + 7) v i (by omega) (by omega) cv (by omega), h3 (1 + 8) v i (by omega) (by omega) cv (by omega), h3 (1 + 9) v i (by omega) (by omega) cv (by omega), hr v (75 + 24 * v + 3 * i) cv (by omega) (by omega), hr v (75 + 24 * v + 3 * i + 1) cv (by omega) (by omega), hr v (75 + 24 * v + 3 * i + 2) cv (by omega) (by omega)]
      exact this
  · have := a4 c hc2
    unfold wC at this ⊢
    have g1 : σ' (1 + 16) = σ (1 + 16) := hc _ (by omega)
    have g2 : σ' (1 + 17) = σ (1 + 17) := hc _ (by omega)
    have g3 : σ' (1 + 18) = σ (1 + 18) := hc _ (by omega)
    have g4 : σ' (1 + 19) = σ (1 + 19) := hc _ (by omega)
    simp -implicitDefEqProofs (disch := omega) only [g1, g2, g3, g4, hr', e6, e7]
    exact this
  · intro j k hj hk
    simp -implicitDefEqProofs (disch := omega) only [hr']
    exact a5 j k hj hk
section RU
variable {nw nj nc : Nat} {σ τ : wg_M}
set_option maxHeartbeats 1000000 in
theorem wl_addRule (h : wB nw nj nc σ 1 (τ 1) τ) (hN : wN nw nj nc τ) {w k c g : Nat} {v : Int32} (hw : w < nw) (hk : τ 1 (67 + w) = nI k) (hk8 : k < 8) (hc : c < 8) (hv : -9 ≤ v.toInt ∧ v.toInt ≤ 9) (hg : 1 ≤ g ∧ g ≤ 99) : ∃ σ' τ', f_X9_addRule 2 (nI w) (nI c) v (nI g) σ = some (nI 0, σ') ∧ f_X12_comesRule 0 (nI w) (nI c) v (nI g) τ = some (nI 0, τ') ∧ wB nw nj nc σ' 1 (τ' 1) τ' ∧ wGc σ σ' ∧ wGm τ τ' ∧ τ' 1 (67 + w) = nI (k + 1) := by
  obtain ⟨n1, n2, n3, n4, n5, n6⟩ := id hN
  have e7 := wb_rules h hw
  rw [hk] at e7
  have ru : ∀ i, i < k → wU σ 1 (τ 1) w i := fun i hi => wb_ru h hw hk (by omega) hi
  obtain ⟨S, hS⟩ : ∃ S, S = wg_u (wg_u (wg_u (wg_u σ 8 (w * 8 + k) (nI c)) 9 (w * 8 + k) v) 10 (w * 8 + k) (nI g)) 7 w (nI (k + 1)) := ⟨_, rfl⟩
  obtain ⟨T, hT⟩ : ∃ T, T = wg_u (wg_u (wg_u (wg_u τ 1 (75 + 24 * w + 3 * k) (nI c)) 1 (75 + 24 * w + 3 * k + 1) v) 1 (75 + 24 * w + 3 * k + 2) (nI g)) 1 (67 + w) (nI (k + 1)) := ⟨_, rfl⟩
  have S7 : S 7 w = nI (k + 1) := by rw [hS]; simp -implicitDefEqProofs (disch := omega) only [wx_uk, wx_un, pk_us, pk_un]
  have T7 : T 1 (67 + w) = nI (k + 1) := by rw [hT]; simp -implicitDefEqProofs (disch := omega) only [wx_uk, wx_un, pk_us, pk_un]
  have SU : ∀ i, i < k + 1 → wU S 1 (T 1) w i := by
    intro i hi
    unfold wU
    rw [hS, hT]
    by_cases ci : i = k
    · subst ci
      simp -implicitDefEqProofs (disch := omega) only [Nat.reduceAdd, wx_uk, wx_un, pk_us, pk_un]
      exact ⟨trivial, trivial, trivial, ⟨c, hc, rfl⟩, hv, g, hg.1, hg.2, rfl⟩
    · have := ru i (by omega)
      unfold wU at this
      simp -implicitDefEqProofs (disch := omega) only [Nat.reduceAdd, wx_uk, wx_un, pk_us, pk_un] at this ⊢
      exact this
  have ic := wl_itchC (σ := S) (w := w) (k := k + 1) (by omega) S7 (by omega) (fun i hi => by
    obtain ⟨u1, -, -, ⟨c', c1, c2⟩, -⟩ := SU i hi
    exact ⟨c', c1, u1.trans c2⟩)
  have im := wl_itchM (τ := T) (w := w) (k := k + 1) (by omega) T7 (by omega)
  have ev : wit (fun i => S 8 (w * 8 + i)) (fun i => S 9 (w * 8 + i)) (k + 1) = wit (fun i => T 1 (75 + 24 * w + 3 * i)) (fun i => T 1 (75 + 24 * w + 3 * i + 1)) (k + 1) :=
    wit_cg (fun i hi => (SU i hi).1) (fun i hi => (SU i hi).2.1)
  rw [ev] at ic
  generalize wit (fun i => T 1 (75 + 24 * w + 3 * i)) (fun i => T 1 (75 + 24 * w + 3 * i + 1)) (k + 1) = V at ic im
  refine ⟨wg_u S 5 w V, wg_u T 1 (51 + w) V, ?_, ?_, ?_, ?_, ?_, ?_⟩
  · rw [hS] at ic ⊢
    simp -implicitDefEqProofs (disch := omega) only [e_X9_addRule, e_X9_addRule__1, e_X9_addRule__2, e_X9_addRule__3, e_X9_addRule__4, e_X9_addRule__5, e_X9_addRule__6, e_X9_addRule__7, e_X9_addRule__8, e_X9_addRule__9, e7, ic, wx_uk, wx_un, pk_us, pk_un, wx_bd, wx_let, wx_st, wx_lit, wx_ga, wx_sa, pk_mul, nI_add, wx_le, wx_lt, wx_eq, wx_en, wx_ne', wx_nn, wx_ltn, wx_len, wx_nlt, wx_nle, wx_bz0, wx_bz1, if_pos, if_neg, wx_ite, Nat.reduceEqDiff, eq_self, if_true, if_false, not_true_eq_false, not_false_eq_true]
  · rw [hT] at im ⊢
    simp -implicitDefEqProofs (disch := omega) only [e_X12_comesRule, e_X12_comesRule__1, e_X12_comesRule__2, e_X12_comesRule__3, e_X12_comesRule__4, e_X12_comesRule__5, e_X12_comesRule__6, e_X12_comesRule__7, e_X12_comesRule__8, e_X12_ruleAt, hk, im, wx_uk, wx_un, pk_us, pk_un, wx_bd, wx_let, wx_st, wx_lit, wx_ga, wx_sa, pk_mul, nI_add, wx_le, wx_lt, wx_eq, wx_en, wx_ne', wx_nn, wx_ltn, wx_len, wx_nlt, wx_nle, wx_bz0, wx_bz1, if_pos, if_neg, wx_ite, Nat.reduceEqDiff, eq_self, if_true, if_false, not_true_eq_false, not_false_eq_true]
  · refine wB_wig (w := w) ⟨n1, n2, n3⟩ h (fun a ha => ?_) ⟨fun a ha => ?_, fun x hx => ?_⟩ (fun a v' q1 q2 q3 => ?_) (fun a v' i q1 q2 q3 q4 => ?_) (fun v' x q1 q2 q3 => ?_) ?_
    · rw [hS]; simp -implicitDefEqProofs (disch := omega) only [wx_uk, wx_un, pk_us, pk_un]
    · rw [hT]; simp -implicitDefEqProofs (disch := omega) only [wx_uk, wx_un, pk_us, pk_un]
    · rw [hT]; simp -implicitDefEqProofs (disch := omega) only [wx_uk, wx_un, pk_us, pk_un]
    · rw [hS]
      rcases (show a = 4 ∨ a = 5 ∨ a = 6 ∨ a = 7 by omega) with rfl | rfl | rfl | rfl <;> simp -implicitDefEqProofs (disch := omega) only [wx_uk, wx_un, pk_us, pk_un]
    · rw [hS]
      rcases (show a = 8 ∨ a = 9 ∨ a = 10 by omega) with rfl | rfl | rfl <;> simp -implicitDefEqProofs (disch := omega) only [wx_uk, wx_un, pk_us, pk_un]
    · rw [hT]; simp -implicitDefEqProofs (disch := omega) only [wx_uk, wx_un, pk_us, pk_un]
    · refine ⟨?_, ?_, ?_, ?_, ?_, k + 1, by omega, ?_, fun i hi => ?_⟩
      · rw [hS, hT]; simp -implicitDefEqProofs (disch := omega) only [Nat.reduceAdd, wx_uk, wx_un, pk_us, pk_un]; exact wb_colour h hw
      · rw [hS, hT]; simp -implicitDefEqProofs (disch := omega) only [Nat.reduceAdd, wx_uk, wx_un, pk_us, pk_un]; exact wb_hair h hw
      · simp -implicitDefEqProofs (disch := omega) only [Nat.reduceAdd, wx_uk, wx_un, pk_us, pk_un]
      · rw [hS, hT]; simp -implicitDefEqProofs (disch := omega) only [Nat.reduceAdd, wx_uk, wx_un, pk_us, pk_un]; exact wb_lent h hw
      · simp -implicitDefEqProofs (disch := omega) only [Nat.reduceAdd, wx_uk, wx_un, pk_us, pk_un]; rw [S7, T7]
      · simp -implicitDefEqProofs (disch := omega) only [Nat.reduceAdd, wx_uk, wx_un, pk_us, pk_un]; exact T7
      · have := SU i hi
        unfold wU at this ⊢
        simp -implicitDefEqProofs (disch := omega) only [Nat.reduceAdd, wx_uk, wx_un, pk_us, pk_un] at this ⊢
        exact this
  · intro a ha
    rw [hS]; simp -implicitDefEqProofs (disch := omega) only [wx_uk, wx_un, pk_us, pk_un]
  · refine ⟨fun a ha => ?_, fun x hx => ?_⟩
    · rw [hT]; simp -implicitDefEqProofs (disch := omega) only [wx_uk, wx_un, pk_us, pk_un]
    · rw [hT]; simp -implicitDefEqProofs (disch := omega) only [wx_uk, wx_un, pk_us, pk_un]
  · simp -implicitDefEqProofs (disch := omega) only [wx_uk, wx_un, pk_us, pk_un]; exact T7
end RU

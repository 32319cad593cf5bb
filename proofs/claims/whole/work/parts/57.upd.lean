/-! changes of the bench -/
theorem wB_sc {nw nj nc : Nat} {σ σ' : wg_M} {b : Nat} {r r' : Nat → Int32} {τ τ' : wg_M} (hn : nw ≤ 8 ∧ nj ≤ 10 ∧ nc ≤ 14) (h : wB nw nj nc σ b r τ) (hσ : ∀ a, b < a → a < b + 20 → σ' a = σ a) (g6 : σ' b 6 = σ b 6) (g7 : σ' b 7 = r' 0) (g8 : σ' b 8 = r' 1) (g9 : σ' b 9 = r' 2) (hl : ∃ l, l ≤ 150 ∧ r' 2 = nI l) (hr : ∀ i, 3 ≤ i → i < 295 → r' i = r i) (h4 : ∀ i, i < 8 → τ' 4 i = τ 4 i) (h5 : ∀ i, i < 10 → τ' 5 i = τ 5 i) (h6 : ∀ i, i < 14 → τ' 6 i = τ 6 i) (h7 : ∀ i, i < 14 → τ' 7 i = τ 7 i) : wB nw nj nc σ' b r' τ' := by
  obtain ⟨n1, n2, n3⟩ := hn
  obtain ⟨a1, a2, a3, a4, a5⟩ := h
  refine ⟨⟨?_, ?_, g6.trans a1.2.2.1, g7, g8, g9, hl⟩, fun j hj => ?_, fun w hw => ?_, fun c hc => ?_, ?_⟩
  · rw [hσ _ (by omega) (by omega)]; exact a1.1
  · rw [hσ _ (by omega) (by omega)]; exact a1.2.1
  · have := a2 j hj
    unfold wJ at this ⊢
    simp (disch := omega) only [hσ, hr, h5]; exact this
  · obtain ⟨c1, c2, c3, c4, c5, k, c6, c7, c8⟩ := a3 w hw
    unfold wW
    simp (disch := omega) only [hσ, hr, h4]
    refine ⟨c1, c2, c3, c4, c5, k, c6, c7, fun i hi => ?_⟩
    have := c8 i hi
    unfold wU at this ⊢
    simp (disch := omega) only [hσ, hr]; exact this
  · have := a4 c hc
    unfold wC at this ⊢
    simp (disch := omega) only [hσ, hr, h6, h7]; exact this
  · intro j k hj hk
    simp (disch := omega) only [hr]
    exact a5 j k hj hk
theorem wDk_mono {nj nc nj' nc' : Nat} {σ : wg_M} {b : Nat} {τ : wg_M} (h1 : nj ≤ nj') (h2 : nc ≤ nc') (h : wDk nj nc σ b τ) : wDk nj' nc' σ b τ := by
  obtain ⟨n, a1, a2, a3, a4⟩ := h
  refine ⟨n, a1, a2, a3, fun i hi => ?_⟩
  obtain ⟨b1, b2, b3, ⟨c, c1, c2⟩, j, j1, j2⟩ := a4 i hi
  exact ⟨b1, b2, b3, ⟨c, by omega, c2⟩, j, by omega, j2⟩
theorem wLn_mono {nw nj nw' nj' : Nat} {σ : wg_M} {b : Nat} {τ : wg_M} (h1 : nw ≤ nw') (h2 : nj ≤ nj') (h : wLn nw nj σ b τ) : wLn nw' nj' σ b τ := by
  obtain ⟨n, a1, a2, a3, a4⟩ := h
  refine ⟨n, a1, a2, a3, fun i hi => ?_⟩
  obtain ⟨b1, b2, b3, b4, ⟨w, w1, w2⟩, q⟩ := a4 i hi
  refine ⟨b1, b2, b3, b4, ⟨w, by omega, w2⟩, ?_⟩
  rcases q with ⟨q1, j, j1, j2⟩ | q | q | q
  · exact Or.inl ⟨q1, j, by omega, j2⟩
  · exact Or.inr (Or.inl q)
  · exact Or.inr (Or.inr (Or.inl q))
  · exact Or.inr (Or.inr (Or.inr q))
theorem wRt_mono {nw nj nc nw' nj' nc' : Nat} {σ : wg_M} {b : Nat} {τ : wg_M} (h1 : nw ≤ nw') (h2 : nj ≤ nj') (h3 : nc ≤ nc') (h : wRt nw nj nc σ b τ) : wRt nw' nj' nc' σ b τ :=
  ⟨h.1, wDk_mono h2 h3 h.2.1, wLn_mono h1 h2 h.2.2.1, h.2.2.2⟩
/-- a change of the bench, of THE BOOK and of what is undone alone -/
theorem wR_bn {nw nj nc nw' nj' nc' : Nat} {σ σ' τ τ' : wg_M} (hm : nw ≤ nw' ∧ nj ≤ nj' ∧ nc ≤ nc') (hσ : ∀ a, 26 ≤ a → a < 138 ∨ 258 < a → a ≠ 32 → a ≠ 33 → a ≠ 58 → σ' a = σ a) (hτ : ∀ a i, wLq a i = true → a ≠ 1 → a ≠ 2 → a ≠ 4 → a ≠ 5 → a ≠ 6 → a ≠ 7 → a ≠ 8 → (a = 0 → i = 5 ∨ 9 ≤ i) → τ' a i = τ a i) (h5 : wRt nw nj nc σ 0 τ) (hI : wIm σ τ) (hD : wRd σ τ) (hF : wFl σ τ) (hN' : wN nw' nj' nc' τ') (hB' : wB nw' nj' nc' σ' 1 (τ' 1) τ') (hY' : wY (τ' 1)) (hPg' : wPg σ' 0 τ') (hP' : wP nw' nj' nc' σ' τ') : wR σ' τ' := by
  refine ⟨nw', nj', nc', ⟨hN', hB', hY', hPg', ?_⟩, hP', ?_, ?_, ?_⟩
  · refine wRt_fr (fun a q1 q2 q3 q4 => hσ a (by omega) (by omega) (by omega) (by omega) (by omega)) (fun a i q q1 q8 q4 q5 q6 q7 q0 => ?_) (wRt_mono hm.1 hm.2.1 hm.2.2 h5)
    by_cases h2 : a = 2
    · subst h2; simp [wLv] at q
    · exact hτ a i (by simp [wLq, q]) q1 h2 q4 q5 q6 q7 q8 (fun h0 => Or.inr (q0 h0))
  · exact wIm_fr (by rw [hσ 281 (by omega) (by omega) (by omega) (by omega) (by omega)]) (fun a q1 q2 _ _ _ => hσ a (by omega) (by omega) (by omega) (by omega) (by omega)) (hτ 0 58 rfl (by omega) (by omega) (by omega) (by omega) (by omega) (by omega) (by omega) (by omega)) (funext fun i => hτ 33 i (by simp [wLq]) (by omega) (by omega) (by omega) (by omega) (by omega) (by omega) (by omega) (by omega)) hI
  · exact wRd_fr (by rw [hσ 260 (by omega) (by omega) (by omega) (by omega) (by omega)]) (by rw [hσ 260 (by omega) (by omega) (by omega) (by omega) (by omega)]) (by rw [hσ 260 (by omega) (by omega) (by omega) (by omega) (by omega)]) (hσ 261 (by omega) (by omega) (by omega) (by omega) (by omega)) (hτ 0 15 rfl (by omega) (by omega) (by omega) (by omega) (by omega) (by omega) (by omega) (by omega)) (hτ 0 35 rfl (by omega) (by omega) (by omega) (by omega) (by omega) (by omega) (by omega) (by omega)) (hτ 0 36 rfl (by omega) (by omega) (by omega) (by omega) (by omega) (by omega) (by omega) (by omega)) (funext fun i => hτ 9 i (by simp [wLq]) (by omega) (by omega) (by omega) (by omega) (by omega) (by omega) (by omega) (by omega)) (funext fun i => hτ 10 i (by simp [wLq]) (by omega) (by omega) (by omega) (by omega) (by omega) (by omega) (by omega) (by omega)) hD
  · exact wFl_fr (by rw [hσ 279 (by omega) (by omega) (by omega) (by omega) (by omega)]) (hτ 0 5 rfl (by omega) (by omega) (by omega) (by omega) (by omega) (by omega) (by omega) (by omega)) hF
/-! what the class reads, told by the reference -/
section WB
variable {nw nj nc : Nat} {σ τ : wg_M}
theorem wb_nw (h : wB nw nj nc σ 1 (τ 1) τ) : σ 2 8 = nI nw := h.1.1
theorem wb_nj (h : wB nw nj nc σ 1 (τ 1) τ) : σ 11 5 = nI nj := h.1.2.1
theorem wb_nc (h : wB nw nj nc σ 1 (τ 1) τ) : σ 1 6 = nI nc := h.1.2.2.1
theorem wb_year (h : wB nw nj nc σ 1 (τ 1) τ) : σ 1 7 = τ 1 0 := h.1.2.2.2.1
theorem wb_draws (h : wB nw nj nc σ 1 (τ 1) τ) : σ 1 8 = τ 1 1 := h.1.2.2.2.2.1
theorem wb_lines (h : wB nw nj nc σ 1 (τ 1) τ) : σ 1 9 = τ 1 2 := h.1.2.2.2.2.2.1
theorem wb_age (h : wB nw nj nc σ 1 (τ 1) τ) {j : Nat} (hj : j < nj) : σ 12 j = τ 1 (3 + j) := (h.2.1 j hj).1
theorem wb_mind (h : wB nw nj nc σ 1 (τ 1) τ) {j : Nat} (hj : j < nj) : σ 13 j = τ 5 j := (h.2.1 j hj).2.1
theorem wb_worn (h : wB nw nj nc σ 1 (τ 1) τ) {j : Nat} (hj : j < nj) : σ 14 j = τ 1 (13 + j) - nI 1 := (h.2.1 j hj).2.2.1
theorem wb_wornc (h : wB nw nj nc σ 1 (τ 1) τ) {j : Nat} (hj : j < nj) : τ 1 (13 + j) = nI 0 ∨ ∃ w, w < nw ∧ τ 1 (13 + j) = nI (w + 1) := (h.2.1 j hj).2.2.2.1
theorem wb_dead (h : wB nw nj nc σ 1 (τ 1) τ) {j : Nat} (hj : j < nj) : σ 15 j = τ 1 (23 + j) := (h.2.1 j hj).2.2.2.2.1
theorem wb_deadc (h : wB nw nj nc σ 1 (τ 1) τ) {j : Nat} (hj : j < nj) : τ 1 (23 + j) = nI 0 ∨ τ 1 (23 + j) = nI 1 := (h.2.1 j hj).2.2.2.2.2.1
theorem wb_tried (h : wB nw nj nc σ 1 (τ 1) τ) {j : Nat} (hj : j < nj) : σ 16 j = τ 1 (33 + j) := (h.2.1 j hj).2.2.2.2.2.2
theorem wb_colour (h : wB nw nj nc σ 1 (τ 1) τ) {w : Nat} (hw : w < nw) : σ 3 w = τ 4 w := (h.2.2.1 w hw).1
theorem wb_hair (h : wB nw nj nc σ 1 (τ 1) τ) {w : Nat} (hw : w < nw) : σ 4 w = τ 1 (43 + w) := (h.2.2.1 w hw).2.1
theorem wb_itch (h : wB nw nj nc σ 1 (τ 1) τ) {w : Nat} (hw : w < nw) : σ 5 w = τ 1 (51 + w) := (h.2.2.1 w hw).2.2.1
theorem wb_lent (h : wB nw nj nc σ 1 (τ 1) τ) {w : Nat} (hw : w < nw) : σ 6 w = τ 1 (59 + w) := (h.2.2.1 w hw).2.2.2.1
theorem wb_rules (h : wB nw nj nc σ 1 (τ 1) τ) {w : Nat} (hw : w < nw) : σ 7 w = τ 1 (67 + w) := (h.2.2.1 w hw).2.2.2.2.1
theorem wb_k (h : wB nw nj nc σ 1 (τ 1) τ) {w : Nat} (hw : w < nw) : ∃ k, k ≤ 8 ∧ τ 1 (67 + w) = nI k ∧ ∀ i, i < k → wU σ 1 (τ 1) w i := (h.2.2.1 w hw).2.2.2.2.2
theorem wb_ru (h : wB nw nj nc σ 1 (τ 1) τ) {w k i : Nat} (hw : w < nw) (hk : τ 1 (67 + w) = nI k) (hk8 : k ≤ 8) (hi : i < k) : wU σ 1 (τ 1) w i := by
  obtain ⟨k2, h1, h2, h3⟩ := wb_k h hw
  have : k = k2 := by
    rw [hk] at h2
    exact (nI_eq (by omega) (by omega)).mp h2
  exact h3 i (by omega)
theorem wb_cause (h : wB nw nj nc σ 1 (τ 1) τ) {w k i : Nat} (hw : w < nw) (hk : τ 1 (67 + w) = nI k) (hk8 : k ≤ 8) (hi : i < k) : σ 8 (w * 8 + i) = τ 1 (75 + 24 * w + 3 * i) := (wb_ru h hw hk hk8 hi).1
theorem wb_ruling (h : wB nw nj nc σ 1 (τ 1) τ) {w k i : Nat} (hw : w < nw) (hk : τ 1 (67 + w) = nI k) (hk8 : k ≤ 8) (hi : i < k) : σ 9 (w * 8 + i) = τ 1 (75 + 24 * w + 3 * i + 1) := (wb_ru h hw hk hk8 hi).2.1
theorem wb_weight (h : wB nw nj nc σ 1 (τ 1) τ) {w k i : Nat} (hw : w < nw) (hk : τ 1 (67 + w) = nI k) (hk8 : k ≤ 8) (hi : i < k) : σ 10 (w * 8 + i) = τ 1 (75 + 24 * w + 3 * i + 2) := (wb_ru h hw hk hk8 hi).2.2.1
theorem wb_ccause (h : wB nw nj nc σ 1 (τ 1) τ) {c : Nat} (hc : c < nc) : σ 17 c = τ 6 c := (h.2.2.2.1 c hc).1
theorem wb_merit (h : wB nw nj nc σ 1 (τ 1) τ) {c : Nat} (hc : c < nc) : σ 18 c = τ 7 c := (h.2.2.2.1 c hc).2.1
theorem wb_verdict (h : wB nw nj nc σ 1 (τ 1) τ) {c : Nat} (hc : c < nc) : wV (σ 19 c) (τ 1 (267 + c)) := (h.2.2.2.1 c hc).2.2.1
theorem wb_by (h : wB nw nj nc σ 1 (τ 1) τ) {c : Nat} (hc : c < nc) : σ 20 c = τ 1 (281 + c) - nI 1 := (h.2.2.2.1 c hc).2.2.2.1
end WB
theorem wV_0 {x y : Int32} (h : wV x y) : (x = -nI 10000) = (y = nI 0) := by
  rcases h with ⟨h1, h2⟩ | ⟨n, h1, h2, h3, h4⟩
  · simp [h1, h2]
  · apply propext
    rw [h3, h4, wx_eq (by omega) (by omega)]
    constructor
    · intro h
      have := congrArg Int32.toInt h
      rw [pk_sub_toInt (by omega) (by omega), wx_neg_toInt (by omega)] at this
      omega
    · intro h; omega

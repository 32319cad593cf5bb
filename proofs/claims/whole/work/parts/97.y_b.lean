set_option maxHeartbeats 1000000 in
theorem wR_tx {σ σ' τ τ' : wg_M} {nw nj nc : Nat} (hW : wRW nw nj nc σ 0 τ) (hI : wIm σ τ) (hD : wRd σ τ) (hF : wFl σ τ) (hσ : ∀ a i, (a < 26 ∨ (49 ≤ a ∧ a < 258) ∨ 279 ≤ a) → σ' a i = σ a i) (hτ : ∀ a i, ((a = 0 ∧ (i = 5 ∨ i = 6 ∨ i = 7 ∨ i = 8 ∨ i = 45 ∨ i = 49 ∨ i = 53 ∨ i = 58)) ∨ a = 1 ∨ a = 4 ∨ a = 5 ∨ a = 6 ∨ a = 7 ∨ a = 8 ∨ a = 10 ∨ (24 ≤ a ∧ a ≤ 27) ∨ (29 ≤ a ∧ a ≤ 31) ∨ a = 33) → τ' a i = τ a i) (hL : wLw σ' 0 τ') (hd : wDk nj nc σ' 0 τ') (hl : wLn nw nj σ' 0 τ') (hk : wKn σ' 0 τ') (hP : wP nw nj nc σ' τ') (e1 : σ' 260 2 = nI 0) (e2 : τ' 0 15 = nI 0) (e3 : σ' 260 8 = τ' 0 35) (e4 : σ' 260 9 = τ' 0 36) : wR σ' τ' := by
  obtain ⟨h1, h2, h3, h4, -, -, -, -, h9, h10, h11, h12⟩ := hW
  have fσ : ∀ a, (a < 26 ∨ (49 ≤ a ∧ a < 258) ∨ 279 ≤ a) → σ' a = σ a := fun a q => funext fun i => hσ a i q
  refine ⟨nw, nj, nc, ⟨wN_fr (hτ 0 6 (by omega)) (hτ 0 7 (by omega)) (hτ 0 8 (by omega)) h1, ?_, wY_fr (hτ 1 0 (by omega)) h3, ?_, hL, hd, hl, hk, ?_, ?_, ?_, ?_⟩, hP, ?_, ⟨⟨0, by omega, e1, e2, fun i hi => by omega⟩, e3, e4, fun i hi => ?_⟩, ?_⟩
  · exact wB_fr ⟨h1.1, h1.2.1, h1.2.2.1⟩ (fun a q1 q2 => fσ a (by omega)) (fun i _ => hτ 1 i (by omega)) (fun i _ => hτ 4 i (by omega)) (fun i _ => hτ 5 i (by omega)) (fun i _ => hτ 6 i (by omega)) (fun i _ => hτ 7 i (by omega)) h2
  · exact wPg_fr (fun a q1 q2 => fσ a (by omega)) (fun i _ => hτ 8 i (by omega)) h4
  · exact wTr_fr (hσ _ _ (by omega)) (fun a q1 q2 => fσ a (by omega)) (hτ 0 45 (by omega)) (fun a i q1 q2 _ => hτ a i (by omega)) h9
  · exact wCt_fr (hσ _ _ (by omega)) (fun a q1 q2 => fσ a (by omega)) (hτ 0 49 (by omega)) (fun i _ => hτ 27 i (by omega)) h10
  · exact wPa_fr (fσ _ (by omega)) (fun i _ => hτ 29 i (by omega)) h11
  · exact wHd_fr (hσ _ _ (by omega)) (fun a q1 q2 => fσ a (by omega)) (hτ 0 53 (by omega)) (fun a i q1 q2 _ => hτ a i (by omega)) h12
  · exact wIm_fr (hσ _ _ (by omega)) (fun a q1 q2 _ _ _ => fσ a (by omega)) (hτ 0 58 (by omega)) (funext fun i => hτ 33 i (by omega)) hI
  · rw [hτ 10 i (by omega)]; exact hD.2.2.2 i hi
  · exact wFl_fr (hσ _ _ (by omega)) (hτ 0 5 (by omega)) hF
set_option maxHeartbeats 1000000 in
/-- nothing of the world has changed -/
theorem wR_tf {σ σ' τ τ' : wg_M} (h : wR σ τ) (hσ : ∀ a i, (a < 260 ∨ 279 ≤ a) → σ' a i = σ a i) (hτ : ∀ a i, (wLv a i = true ∨ a = 2 ∨ a = 33 ∨ a = 10 ∨ (a = 0 ∧ (i = 3 ∨ i = 5 ∨ i = 58))) → τ' a i = τ a i) (e1 : σ' 260 2 = nI 0) (e2 : τ' 0 15 = nI 0) (e3 : σ' 260 8 = τ' 0 35) (e4 : σ' 260 9 = τ' 0 36) : wR σ' τ' := by
  obtain ⟨nw, nj, nc, hW, hP, hI, hD, hF⟩ := h
  have fσ : ∀ a, (a < 260 ∨ 279 ≤ a) → σ' a = σ a := fun a q => funext fun i => hσ a i q
  refine ⟨nw, nj, nc, wRW_fr (fun a q1 q2 _ _ _ => fσ a (by omega)) (fun a i q => hτ a i (Or.inl q)) hW, ?_, ?_, ⟨⟨0, by omega, e1, e2, fun i hi => by omega⟩, e3, e4, fun i hi => ?_⟩, ?_⟩
  · exact wP_fr ⟨hW.1.1, hW.1.2.1, hW.1.2.2.1⟩ (hσ _ _ (by omega)) (hσ _ _ (by omega)) (fun a q1 q2 => fσ a (by omega)) (hτ 0 3 (by omega)) (fun i _ => hτ 2 i (by omega)) (fun i hi => hτ 4 i (Or.inl (by simp [wLv]; omega))) (fun i hi => hτ 5 i (Or.inl (by simp [wLv]; omega))) (fun i hi => hτ 6 i (Or.inl (by simp [wLv]; omega))) (fun i hi => hτ 7 i (Or.inl (by simp [wLv]; omega))) hP
  · exact wIm_fr (hσ _ _ (by omega)) (fun a q1 q2 _ _ _ => fσ a (by omega)) (hτ 0 58 (by omega)) (funext fun i => hτ 33 i (by omega)) hI
  · rw [hτ 10 i (by omega)]; exact hD.2.2.2 i hi
  · exact wFl_fr (hσ _ _ (by omega)) (hτ 0 5 (by omega)) hF
set_option maxHeartbeats 1000000 in
theorem pL_n (a i : Nat) (h : a < 260 ∨ 279 ≤ a) : pL a i = false := by
  simp only [pL, pC, pS, Bool.or_eq_false_iff, Bool.and_eq_false_iff, beq_eq_false_iff_ne]
  omega
set_option maxHeartbeats 1000000 in
theorem pN_n (a i : Nat) (h : a < 260 ∨ 279 ≤ a) : pN a i = false := by
  simp only [pN, pS, Bool.or_eq_false_iff, Bool.and_eq_false_iff, beq_eq_false_iff_ne]
  omega
set_option maxHeartbeats 1000000 in
theorem wU8_n {p : Nat → Nat → Bool} (a i : Nat) (h : a < 260 ∨ 279 ≤ a) (hp : p a i = false) : wU8 p a i = false := by
  unfold wU8
  rw [hp]
  simp only [Bool.false_or, Bool.and_eq_false_iff, beq_eq_false_iff_ne]
  omega
set_option maxHeartbeats 1000000 in
/-- places of the reference that a text which is read may not change -/
theorem qL_n (a i : Nat) (h : wLv a i = true ∨ a = 2 ∨ a = 33 ∨ a = 10 ∨ (a = 0 ∧ (i = 3 ∨ i = 5 ∨ i = 58))) : qL a i = false ∧ ¬ (a = 0 ∧ (i = 0 ∨ (16 ≤ i ∧ i ≤ 19) ∨ (28 ≤ i ∧ i ≤ 30) ∨ i = 35 ∨ i = 36)) ∧ ¬ (a = 0 ∧ i = 15) := by
  have key : (a = 0 → i = 3 ∨ i = 5 ∨ i = 58 ∨ i = 6 ∨ i = 7 ∨ i = 8 ∨ i = 37 ∨ i = 39 ∨ i = 41 ∨ i = 45 ∨ i = 49 ∨ i = 53) ∧ (a = 12 ∨ a = 13 ∨ a = 14 ∨ a = 15 → i < 32) ∧ (a = 16 ∨ a = 17 → i < 800) ∧ a ≠ 18 := by
    rcases h with h | h | h | h | h
    · refine ⟨fun e => ?_, fun e => ?_, fun e => ?_, fun e => ?_⟩
      · subst e
        simp only [wLv, Bool.or_eq_true, beq_iff_eq] at h
        omega
      · rcases e with rfl | rfl | rfl | rfl <;> simp only [wLv, decide_eq_true_eq] at h <;> omega
      · rcases e with rfl | rfl <;> simp only [wLv, decide_eq_true_eq] at h <;> omega
      · subst e
        simp [wLv] at h
    · subst h; exact ⟨by omega, by omega, by omega, by omega⟩
    · subst h; exact ⟨by omega, by omega, by omega, by omega⟩
    · subst h; exact ⟨by omega, by omega, by omega, by omega⟩
    · obtain ⟨rfl, h⟩ := h; exact ⟨by omega, by omega, by omega, by omega⟩
  refine ⟨?_, by omega, by omega⟩
  simp only [qL, qC, qS, Bool.or_eq_false_iff, Bool.and_eq_false_iff, beq_eq_false_iff_ne, decide_eq_false_iff_not]
  omega
set_option maxHeartbeats 1000000 in
theorem qN_n (a i : Nat) (h : wLv a i = true ∨ a = 2 ∨ a = 33 ∨ a = 10 ∨ (a = 0 ∧ (i = 3 ∨ i = 5 ∨ i = 58))) : qN a i = false := by
  have key : (a = 0 → i = 3 ∨ i = 5 ∨ i = 58 ∨ i = 6 ∨ i = 7 ∨ i = 8 ∨ i = 37 ∨ i = 39 ∨ i = 41 ∨ i = 45 ∨ i = 49 ∨ i = 53) ∧ (a = 16 ∨ a = 17 → i < 800) ∧ (a = 19 → i < 48) ∧ (a = 20 → i < 64) ∧ (a = 21 → i < 8) := by
    rcases h with h | h | h | h | h
    · refine ⟨fun e => ?_, fun e => ?_, fun e => ?_, fun e => ?_, fun e => ?_⟩
      · subst e
        simp only [wLv, Bool.or_eq_true, beq_iff_eq] at h
        omega
      · rcases e with rfl | rfl <;> simp only [wLv, decide_eq_true_eq] at h <;> omega
      · subst e; simp only [wLv, decide_eq_true_eq] at h; omega
      · subst e; simp only [wLv, decide_eq_true_eq] at h; omega
      · subst e; simp only [wLv, decide_eq_true_eq] at h; omega
    · subst h; exact ⟨by omega, by omega, by omega, by omega, by omega⟩
    · subst h; exact ⟨by omega, by omega, by omega, by omega, by omega⟩
    · subst h; exact ⟨by omega, by omega, by omega, by omega, by omega⟩
    · obtain ⟨rfl, h⟩ := h; exact ⟨by omega, by omega, by omega, by omega, by omega⟩
  simp only [qN, qS, Bool.or_eq_false_iff, Bool.and_eq_false_iff, beq_eq_false_iff_ne, decide_eq_false_iff_not]
  omega
set_option maxHeartbeats 1000000 in
theorem wLk_fr {n : Nat} {σ τ τ' : wg_M} (h : wLk n σ τ) (e : ∀ a i, ¬ (a = 0 ∧ i = 15) → τ' a i = τ a i) : wLk n σ τ' := by
  obtain ⟨c1, c2, h1, h2, h3, h4⟩ := h
  refine ⟨c1, c2, h1, wCm_fr (e 0 29 (by omega)) (fun i => e 16 i (by omega)) (fun i => e 17 i (by omega)) h2, h3, fun l hl => ?_⟩
  have := h4 l hl
  unfold wLi at this ⊢
  rw [e 12 _ (by omega), e 13 _ (by omega), e 14 _ (by omega), e 15 _ (by omega)]
  exact this

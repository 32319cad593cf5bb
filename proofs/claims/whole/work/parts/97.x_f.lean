/-! what waits: 9 not, 10 and, 11 or, 12 a bracket; the last first -/
def wStk (r : Nat → Int32) (f : Nat → Nat) : List Nat → Prop
  | [] => True
  | x :: R => r R.length = nI (f x) ∧ wStk r f R
def wcd (x : Nat) : Nat := if x = 9 then 272 else if x = 10 then 271 else if x = 11 then 270 else 40
def whd : List Nat → Nat
  | [] => 0
  | x :: _ => x
def wop : List Nat → Nat
  | [] => 0
  | x :: R => wop R + (if x = 9 ∨ x = 12 then 1 else 0)
def wbr : List Nat → Nat
  | [] => 0
  | x :: R => wbr R + (if x = 12 then 1 else 0)
def wto : List Nat → Nat
  | [] => 0
  | x :: R => wto R + (if x = 10 ∨ x = 11 then 1 else 0)
def wWf : List Nat → Prop
  | [] => True
  | x :: R => (x = 9 ∨ x = 12 ∨ (x = 10 ∧ (whd R = 0 ∨ whd R = 11 ∨ whd R = 12)) ∨ (x = 11 ∧ (whd R = 0 ∨ whd R = 12))) ∧ wWf R
def wnD : List Nat → List (Nat × Int32)
  | [] => []
  | x :: R => if x = 9 then (9, nI 0) :: wnD R else []
def wnW : List Nat → List Nat
  | [] => []
  | x :: R => if x = 9 then wnW R else x :: R
def wpD (k : Nat) : List Nat → List (Nat × Int32)
  | [] => []
  | x :: _ => if x = k then [(k, nI 0)] else []
def wpW (k : Nat) : List Nat → List Nat
  | [] => []
  | x :: R => if x = k then R else x :: R
set_option maxHeartbeats 1000000 in
theorem wStk_fr {r r' : Nat → Int32} {f : Nat → Nat} : ∀ {W : List Nat}, (∀ i, i < W.length → r' i = r i) → wStk r f W → wStk r' f W
  | [], _, _ => trivial
  | x :: R, h, ⟨a, b⟩ => ⟨by rw [h R.length (by simp)]; exact a, wStk_fr (fun i hi => h i (by simp only [List.length_cons]; omega)) b⟩
set_option maxHeartbeats 1000000 in
theorem wop_le : ∀ W, wop W ≤ W.length
  | [] => Nat.le_refl _
  | x :: R => by
    have := wop_le R
    simp only [wop, List.length_cons]
    split <;> omega
set_option maxHeartbeats 1000000 in
theorem wbr_le : ∀ W, wbr W ≤ wop W
  | [] => Nat.le_refl _
  | x :: R => by
    have := wbr_le R
    simp only [wbr, wop]
    by_cases c : x = 12
    · rw [if_pos c, if_pos (Or.inr c)]; omega
    · rw [if_neg c]; omega
set_option maxHeartbeats 1000000 in
theorem wto_le : ∀ W, wto W ≤ W.length
  | [] => Nat.le_refl _
  | x :: R => by
    have := wto_le R
    simp only [wto, List.length_cons]
    split <;> omega
set_option maxHeartbeats 1000000 in
theorem wWf_len : ∀ W, wWf W → W.length ≤ 3 * wop W + (if whd W = 10 then 2 else if whd W = 11 then 1 else 0)
  | [], _ => by simp [wop]
  | x :: R, ⟨h, hR⟩ => by
    have ih := wWf_len R hR
    simp only [List.length_cons, wop, whd]
    rcases h with rfl | rfl | ⟨rfl, q⟩ | ⟨rfl, q⟩
    · simp only [true_or, if_true]
      split at ih <;> (try split at ih) <;> simp <;> omega
    · simp only [or_true, if_true]
      split at ih <;> (try split at ih) <;> simp <;> omega
    · rcases q with q | q | q <;> simp [q] at ih ⊢ <;> omega
    · rcases q with q | q <;> simp [q] at ih ⊢ <;> omega
set_option maxHeartbeats 1000000 in
theorem wWf_26 {W : List Nat} (h : wWf W) (h8 : wop W ≤ 8) : W.length ≤ 26 := by
  have := wWf_len W h
  split at this
  · omega
  · split at this <;> omega
set_option maxHeartbeats 1000000 in
theorem wnW_f : ∀ W, wWf W → whd (wnW W) ≠ 9 ∧ wWf (wnW W) ∧ wto (wnW W) = wto W ∧ wbr (wnW W) = wbr W ∧ wop (wnW W) ≤ wop W ∧ (wnW W).length + wo_l (wnD W) = W.length
  | [], _ => ⟨by decide, trivial, rfl, rfl, Nat.le_refl _, rfl⟩
  | x :: R, ⟨h, hR⟩ => by
    by_cases c : x = 9
    · subst c
      obtain ⟨a1, a2, a3, a4, a5, a6⟩ := wnW_f R hR
      have e1 : wnW (9 :: R) = wnW R := rfl
      have e2 : wnD (9 :: R) = (9, nI 0) :: wnD R := rfl
      rw [e1, e2]
      refine ⟨a1, a2, ?_, ?_, ?_, ?_⟩
      · rw [a3]; simp [wto]
      · rw [a4]; simp [wbr]
      · simp only [wop]; omega
      · show (wnW R).length + (1 + wo_l (wnD R)) = R.length + 1
        omega
    · have e1 : wnW (x :: R) = x :: R := if_neg c
      have e2 : wnD (x :: R) = [] := if_neg c
      rw [e1, e2]
      exact ⟨c, ⟨h, hR⟩, rfl, rfl, Nat.le_refl _, rfl⟩
set_option maxHeartbeats 1000000 in
theorem wnD_t (st : List Bool) : ∀ W, wo_t (wnD W) (true :: st) = some (true :: st)
  | [] => rfl
  | x :: R => by
    by_cases c : x = 9
    · subst c
      show wo_t ((9, nI 0) :: wnD R) (true :: st) = _
      rw [wo_t]
      exact wnD_t st R
    · have e2 : wnD (x :: R) = [] := if_neg c
      rw [e2]; rfl
set_option maxHeartbeats 1000000 in
theorem wpW_f {k : Nat} (hk : k = 10 ∨ k = 11) : ∀ W, wWf W → wWf (wpW k W) ∧ wbr (wpW k W) = wbr W ∧ wop (wpW k W) = wop W ∧ (wpW k W).length + wo_l (wpD k W) = W.length ∧ wo_t (wpD k W) (true :: List.replicate (wto W) true) = some (true :: List.replicate (wto (wpW k W)) true)
  | [], _ => ⟨trivial, rfl, rfl, rfl, rfl⟩
  | x :: R, ⟨h, hR⟩ => by
    by_cases c : x = k
    · subst c
      have e1 : wpW x (x :: R) = R := if_pos rfl
      have e2 : wpD x (x :: R) = [(x, nI 0)] := if_pos rfl
      rw [e1, e2]
      rcases hk with rfl | rfl
      · refine ⟨hR, by simp [wbr], by simp [wop], rfl, ?_⟩
        have : wto (10 :: R) = wto R + 1 := by simp [wto]
        rw [this]; rfl
      · refine ⟨hR, by simp [wbr], by simp [wop], rfl, ?_⟩
        have : wto (11 :: R) = wto R + 1 := by simp [wto]
        rw [this]; rfl
    · have e1 : wpW k (x :: R) = x :: R := if_neg c
      have e2 : wpD k (x :: R) = [] := if_neg c
      rw [e1, e2]
      exact ⟨⟨h, hR⟩, rfl, rfl, rfl, rfl⟩
set_option maxHeartbeats 1000000 in
theorem wp10_h {W : List Nat} (h : wWf W) (h9 : whd W ≠ 9) : whd (wpW 10 W) = 0 ∨ whd (wpW 10 W) = 11 ∨ whd (wpW 10 W) = 12 := by
  rcases W with _ | ⟨x, R⟩
  · exact Or.inl rfl
  · obtain ⟨q, -⟩ := h
    have h9 : x ≠ 9 := h9
    by_cases c : x = 10
    · subst c
      have e1 : wpW 10 (10 :: R) = R := rfl
      rw [e1]; omega
    · have e1 : wpW 10 (x :: R) = x :: R := if_neg c
      rw [e1]
      show x = 0 ∨ x = 11 ∨ x = 12
      omega
set_option maxHeartbeats 1000000 in
theorem wp11_h {W : List Nat} (h : wWf W) (h9 : whd W = 0 ∨ whd W = 11 ∨ whd W = 12) : whd (wpW 11 W) = 0 ∨ whd (wpW 11 W) = 12 := by
  rcases W with _ | ⟨x, R⟩
  · exact Or.inl rfl
  · obtain ⟨q, -⟩ := h
    have h9 : x = 0 ∨ x = 11 ∨ x = 12 := h9
    by_cases c : x = 11
    · subst c
      have e1 : wpW 11 (11 :: R) = R := rfl
      rw [e1]; omega
    · have e1 : wpW 11 (x :: R) = x :: R := if_neg c
      rw [e1]
      show x = 0 ∨ x = 12
      omega
set_option maxHeartbeats 1000000 in
theorem whd_0 {W : List Nat} (h : wWf W) (h0 : whd W = 0) : W = [] := by
  rcases W with _ | ⟨x, R⟩
  · rfl
  · obtain ⟨q, -⟩ := h
    have h0 : x = 0 := h0
    omega
set_option maxHeartbeats 1000000 in
theorem whd_12 {W : List Nat} (h0 : whd W = 12) : ∃ R, W = 12 :: R := by
  rcases W with _ | ⟨x, R⟩
  · cases h0
  · have h0 : x = 12 := h0
    exact ⟨R, by rw [h0]⟩

/-! the reference's rounds -/
section MT
variable {n : Nat} {τ0 : wg_M} {m : Nat → Nat}
def wLm (τ : wg_M) (v : Nat → Nat) : Prop := ∀ x, x < 14 → τ 28 x = nI (v x)
/-- one more than the greatest of those cited, of the first k -/
def wmx (m : Nat → Nat) (v : Nat → Nat) (a : Nat) : Nat → Nat
  | 0 => 0
  | k + 1 => if (m a).testBit k = true then max (wmx m v a k) (v k) else wmx m v a k
set_option maxHeartbeats 1000000 in
theorem wmx_le {v u : Nat → Nat} {a : Nat} : ∀ k, (∀ c, c < k → (m a).testBit c = true → v c ≤ u c) → wmx m v a k ≤ wmx m u a k
  | 0, _ => Nat.le_refl _
  | k + 1, h => by
    have ih := wmx_le (v := v) (u := u) (a := a) k (fun c hc hb => h c (by omega) hb)
    simp only [wmx]
    split
    · have := h k (by omega) ‹_›
      omega
    · exact ih
set_option maxHeartbeats 1000000 in
theorem wmx_ge {v : Nat → Nat} {a c : Nat} : ∀ k, c < k → (m a).testBit c = true → v c ≤ wmx m v a k
  | 0, h, _ => by omega
  | k + 1, h, hb => by
    simp only [wmx]
    by_cases e : c = k
    · subst e; rw [if_pos hb]; omega
    · have := wmx_ge (v := v) (a := a) (c := c) k (by omega) hb
      split <;> omega
set_option maxHeartbeats 1000000 in
theorem wmx_hit {v : Nat → Nat} {a : Nat} : ∀ k, wmx m v a k = 0 ∨ ∃ c, c < k ∧ (m a).testBit c = true ∧ wmx m v a k = v c
  | 0 => Or.inl rfl
  | k + 1 => by
    have ih := wmx_hit (v := v) (a := a) k
    simp only [wmx]
    by_cases hb : (m a).testBit k = true
    · rw [if_pos hb]
      by_cases q : wmx m v a k ≤ v k
      · exact Or.inr ⟨k, by omega, hb, by omega⟩
      · rcases ih with z | ⟨c, h1, h2, h3⟩
        · omega
        · exact Or.inr ⟨c, by omega, h2, by omega⟩
    · rw [if_neg hb]
      rcases ih with z | ⟨c, h1, h2, h3⟩
      · exact Or.inl z
      · exact Or.inr ⟨c, by omega, h2, h3⟩
end MT

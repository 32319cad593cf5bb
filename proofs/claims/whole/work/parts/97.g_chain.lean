/-! rows of cases that cite: the longest -/
def wSt (E : Nat → Nat → Prop) (v : Nat → Nat) : Prop := (∀ a c, a < 14 → c < 14 → E a c → v c < v a) ∧ ∀ a, a < 14 → v a = 1 ∨ (1 ≤ v a ∧ ∃ c, c < 14 ∧ E a c ∧ v a = v c + 1)
section CH
variable {E : Nat → Nat → Prop} {v u : Nat → Nat}
set_option maxHeartbeats 1000000 in
theorem wSt_pos (h : wSt E v) {a : Nat} (ha : a < 14) : 1 ≤ v a := by
  rcases h.2 a ha with q | q
  · omega
  · exact q.1
set_option maxHeartbeats 1000000 in
theorem wSt_le (h : wSt E v) (h' : wSt E u) : ∀ n a, a < 14 → v a ≤ n → v a ≤ u a := by
  intro n
  induction n with
  | zero => intro a ha hn; omega
  | succ n ih =>
    intro a ha hn
    have p := wSt_pos h' ha
    rcases h.2 a ha with q | ⟨-, c, hc, hE, q⟩
    · omega
    · have r := ih c hc (by omega)
      have s := h'.1 a c ha hc hE
      omega
set_option maxHeartbeats 1000000 in
theorem wSt_eq (h : wSt E v) (h' : wSt E u) {a : Nat} (ha : a < 14) : v a = u a :=
  Nat.le_antisymm (wSt_le h h' _ a ha (Nat.le_refl _)) (wSt_le h' h _ a ha (Nat.le_refl _))
set_option maxHeartbeats 1000000 in
/-- each number below is some one's -/
theorem wSt_down (h : wSt E v) : ∀ n a, a < 14 → v a ≤ n → ∀ k, 1 ≤ k → k ≤ v a → ∃ c, c < 14 ∧ v c = k := by
  intro n
  induction n with
  | zero => intro a ha hn k h1 h2; omega
  | succ n ih =>
    intro a ha hn k h1 h2
    by_cases e : k = v a
    · exact ⟨a, ha, e.symm⟩
    · rcases h.2 a ha with q | ⟨-, c, hc, hE, q⟩
      · omega
      · exact ih c hc (by omega) k h1 (by omega)
set_option maxHeartbeats 1000000 in
/-- how many below k have numbers up to m: at least m where each is some one's -/
theorem wh_n_hit : ∀ N m, (∀ k, 1 ≤ k → k ≤ m → ∃ c, c < N ∧ v c = k) → m ≤ N := by
  intro N
  induction N generalizing v with
  | zero =>
    intro m h
    rcases Nat.eq_zero_or_pos m with q | q
    · omega
    · obtain ⟨c, hc, -⟩ := h m q (Nat.le_refl m)
      omega
  | succ N ih =>
    intro m h
    rcases Nat.eq_zero_or_pos m with q | q
    · omega
    · by_cases c1 : 1 ≤ v N ∧ v N ≤ m
      · have := ih (v := fun c => if v c = m then v N else v c) (m - 1) (fun k k1 k2 => by
          by_cases e : v N = k
          · obtain ⟨c, hc, hv⟩ := h m q (Nat.le_refl m)
            by_cases cN : c = N
            · subst cN
              omega
            · exact ⟨c, by omega, by simp [hv, e]⟩
          · obtain ⟨c, hc, hv⟩ := h k k1 (by omega)
            by_cases cN : c = N
            · subst cN; exact absurd hv e
            · exact ⟨c, by omega, by
                show (if v c = m then v N else v c) = k
                rw [if_neg (by omega)]; exact hv⟩)
        omega
      · have := ih (v := v) m (fun k k1 k2 => by
          obtain ⟨c, hc, hv⟩ := h k k1 k2
          by_cases cN : c = N
          · subst cN; omega
          · exact ⟨c, by omega, hv⟩)
        omega
set_option maxHeartbeats 1000000 in
theorem wSt_14 (h : wSt E v) {a : Nat} (ha : a < 14) : v a ≤ 14 :=
  wh_n_hit (v := v) 14 (v a) (fun k k1 k2 => wSt_down h _ a ha (Nat.le_refl _) k k1 k2)
end CH

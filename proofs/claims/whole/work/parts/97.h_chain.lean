/-! a sweep over the cites, as the class makes it -/
def wsp (A C : Nat → Nat) (v : Nat → Nat) (i : Nat) : Nat → Nat := fun x => if v (C i) < v (A i) then v x else if x = A i then v (C i) + 1 else v x
def wsw (A C : Nat → Nat) : Nat → Nat → (Nat → Nat) → (Nat → Nat)
  | 0, _, v => v
  | d + 1, i, v => wsw A C d (i + 1) (wsp A C v i)
section SW
variable {A C : Nat → Nat}
set_option maxHeartbeats 1000000 in
theorem wsp_mono (v : Nat → Nat) (i x : Nat) : v x ≤ wsp A C v i x := by
  unfold wsp
  split
  · exact Nat.le_refl _
  · split
    · subst ‹x = A i›; omega
    · exact Nat.le_refl _
set_option maxHeartbeats 1000000 in
theorem wsw_mono : ∀ d i v x, v x ≤ wsw A C d i v x
  | 0, _, _, _ => Nat.le_refl _
  | d + 1, i, v, x => Nat.le_trans (wsp_mono v i x) (wsw_mono d (i + 1) _ x)
set_option maxHeartbeats 1000000 in
theorem wsp_hit (v : Nat → Nat) (i : Nat) : v (C i) < wsp A C v i (A i) := by
  unfold wsp
  split
  · assumption
  · rw [if_pos rfl]; omega
set_option maxHeartbeats 1000000 in
/-- behind a sweep each cites above what was below -/
theorem wsw_hit : ∀ d i v k, i ≤ k → k < i + d → v (C k) < wsw A C d i v (A k)
  | 0, i, v, k, h1, h2 => by omega
  | d + 1, i, v, k, h1, h2 => by
    show v (C k) < wsw A C d (i + 1) (wsp A C v i) (A k)
    by_cases e : k = i
    · subst e
      exact Nat.lt_of_lt_of_le (wsp_hit v k) (wsw_mono d (k + 1) _ _)
    · exact Nat.lt_of_le_of_lt (wsp_mono v i _) (wsw_hit d (i + 1) _ k (by omega) (by omega))
set_option maxHeartbeats 1000000 in
/-- it stays below what is above all cites -/
theorem wsp_below {v u : Nat → Nat} {i : Nat} (hi : u (C i) < u (A i)) (h : ∀ x, v x ≤ u x) : ∀ x, wsp A C v i x ≤ u x := by
  intro x
  unfold wsp
  split
  · exact h x
  · split
    · subst ‹x = A i›
      have := h (C i)
      omega
    · exact h x
set_option maxHeartbeats 1000000 in
theorem wsw_below {u : Nat → Nat} : ∀ d i v, (∀ k, i ≤ k → k < i + d → u (C k) < u (A k)) → (∀ x, v x ≤ u x) → ∀ x, wsw A C d i v x ≤ u x
  | 0, _, _, _, h => h
  | d + 1, i, v, hk, h => wsw_below d (i + 1) _ (fun k h1 h2 => hk k (by omega) (by omega)) (wsp_below (hk i (by omega) (by omega)) h)
set_option maxHeartbeats 1000000 in
theorem wsp_id {v : Nat → Nat} {i : Nat} (h : v (C i) < v (A i)) : wsp A C v i = v := by
  funext x
  unfold wsp
  rw [if_pos h]
set_option maxHeartbeats 1000000 in
/-- where all are above, nothing changes -/
theorem wsw_id : ∀ d i v, (∀ k, i ≤ k → k < i + d → v (C k) < v (A k)) → wsw A C d i v = v
  | 0, _, _, _ => rfl
  | d + 1, i, v, h => by
    show wsw A C d (i + 1) (wsp A C v i) = v
    rw [wsp_id (h i (by omega) (by omega))]
    exact wsw_id d (i + 1) v (fun k h1 h2 => h k (by omega) (by omega))
/-- each number has its reason -/
def wsr (A C : Nat → Nat) (n : Nat) (v : Nat → Nat) : Prop := ∀ x, v x = 1 ∨ (1 ≤ v x ∧ ∃ k, k < n ∧ A k = x ∧ v x ≤ v (C k) + 1)
set_option maxHeartbeats 1000000 in
theorem wsr_sp {n : Nat} {v : Nat → Nat} {i : Nat} (hi : i < n) (h : wsr A C n v) : wsr A C n (wsp A C v i) := by
  intro x
  by_cases c : v (C i) < v (A i)
  · rw [wsp_id c]; exact h x
  · by_cases cx : x = A i
    · right
      have e : wsp A C v i x = v (C i) + 1 := by unfold wsp; rw [if_neg c, if_pos cx]
      refine ⟨by omega, i, hi, cx.symm, ?_⟩
      have := wsp_mono (A := A) (C := C) v i (C i)
      omega
    · have e : wsp A C v i x = v x := by unfold wsp; rw [if_neg c, if_neg cx]
      rw [e]
      rcases h x with q | ⟨q1, k, hk, q2, q3⟩
      · exact Or.inl q
      · have := wsp_mono (A := A) (C := C) v i (C k)
        exact Or.inr ⟨q1, k, hk, q2, by omega⟩
set_option maxHeartbeats 1000000 in
theorem wsr_sw {n : Nat} : ∀ d i v, i + d ≤ n → wsr A C n v → wsr A C n (wsw A C d i v)
  | 0, _, _, _, h => h
  | d + 1, i, v, hd, h => wsr_sw d (i + 1) _ (by omega) (wsr_sp (by omega) h)
end SW

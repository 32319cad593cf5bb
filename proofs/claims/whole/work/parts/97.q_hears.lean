/-! hard cases: what is due soonest is heard first -/
def wHs (p : Nat → Bool) (h : Nat → Nat) : Nat → Nat
  | 0 => 0
  | k + 1 => wHs p h k + (if p k = true then h k else 0)
set_option maxHeartbeats 1000000 in
theorem wHs_le {p q : Nat → Bool} {h : Nat → Nat} : ∀ {k : Nat}, (∀ j, j < k → p j = true → q j = true) → wHs p h k ≤ wHs q h k
  | 0, _ => Nat.le_refl _
  | k + 1, H => by
    have ih := wHs_le (p := p) (q := q) (h := h) (k := k) (fun j hj => H j (by omega))
    simp only [wHs]
    by_cases c : p k = true
    · rw [if_pos c, if_pos (H k (by omega) c)]; omega
    · rw [if_neg c]; omega
set_option maxHeartbeats 1000000 in
theorem wHs_cg {p q : Nat → Bool} {h : Nat → Nat} {k : Nat} (H : ∀ j, j < k → p j = q j) : wHs p h k = wHs q h k :=
  Nat.le_antisymm (wHs_le (fun j hj e => by rw [← H j hj]; exact e)) (wHs_le (fun j hj e => by rw [H j hj]; exact e))
set_option maxHeartbeats 1000000 in
theorem wHs_bd {p : Nat → Bool} {h : Nat → Nat} {B : Nat} : ∀ {k : Nat}, (∀ j, j < k → h j ≤ B) → wHs p h k ≤ B * k
  | 0, _ => Nat.zero_le _
  | k + 1, H => by
    have ih := wHs_bd (p := p) (h := h) (B := B) (k := k) (fun j hj => H j (by omega))
    have := H k (by omega)
    simp only [wHs]
    rw [Nat.mul_succ]
    split <;> omega
set_option maxHeartbeats 1000000 in
theorem wHs_set {p q : Nat → Bool} {h : Nat → Nat} {i : Nat} (hp : p i = false) (hq : ∀ j, q j = (p j || decide (j = i))) : ∀ {k : Nat}, wHs q h k = wHs p h k + (if i < k then h i else 0)
  | 0 => by simp [wHs]
  | k + 1 => by
    have ih := wHs_set (h := h) hp hq (k := k)
    simp only [wHs, ih, hq k]
    by_cases e : k = i
    · subst e
      simp [hp]
    · by_cases l : i < k
      · simp [e, l, show i < k + 1 by omega]; omega
      · simp [e, l, show ¬ i < k + 1 by omega]
set_option maxHeartbeats 1000000 in
theorem wHmax (d : Nat → Nat) (q : Nat → Bool) : ∀ N, (∀ j, j < N → q j = false) ∨ ∃ m, m < N ∧ q m = true ∧ ∀ j, j < N → q j = true → d j ≤ d m
  | 0 => Or.inl (fun j hj => by omega)
  | N + 1 => by
    cases c : q N
    · rcases wHmax d q N with z | ⟨m, h1, h2, h3⟩
      · refine Or.inl (fun j hj => ?_)
        by_cases e : j = N
        · subst e; exact c
        · exact z j (by omega)
      · refine Or.inr ⟨m, by omega, h2, fun j hj hq => ?_⟩
        by_cases e : j = N
        · subst e; rw [c] at hq; cases hq
        · exact h3 j (by omega) hq
    · rcases wHmax d q N with z | ⟨m, h1, h2, h3⟩
      · refine Or.inr ⟨N, by omega, c, fun j hj hq => ?_⟩
        by_cases e : j = N
        · subst e; exact Nat.le_refl _
        · rw [z j (by omega)] at hq; cases hq
      · by_cases l : d m ≤ d N
        · refine Or.inr ⟨N, by omega, c, fun j hj hq => ?_⟩
          by_cases e : j = N
          · subst e; exact Nat.le_refl _
          · exact Nat.le_trans (h3 j (by omega) hq) l
        · refine Or.inr ⟨m, by omega, h2, fun j hj hq => ?_⟩
          by_cases e : j = N
          · subst e; omega
          · exact h3 j (by omega) hq
set_option maxHeartbeats 1000000 in
theorem wHmin (d : Nat → Nat) (B : Nat) (q : Nat → Bool) (N : Nat) (hB : ∀ j, j < N → d j ≤ B) : (∀ j, j < N → q j = false) ∨ ∃ m, m < N ∧ q m = true ∧ ∀ j, j < N → q j = true → d m ≤ d j := by
  rcases wHmax (fun j => B - d j) q N with z | ⟨m, h1, h2, h3⟩
  · exact Or.inl z
  · refine Or.inr ⟨m, h1, h2, fun j hj hq => ?_⟩
    have a := h3 j hj hq
    have a : B - d j ≤ B - d m := a
    have b := hB j hj
    have c := hB m h1
    omega
/-- all that are not heard can be heard no later than x behind their due -/
def wHP (h d : Nat → Nat) (N S x : Nat) : Prop := ∀ k, k < N → S.testBit k = false → wHs (fun j => S.testBit j || decide (d j ≤ d k)) h N ≤ d k + x
section HP
variable {h d : Nat → Nat} {N S x : Nat}
set_option maxHeartbeats 1000000 in
theorem wHP_full (H : ∀ j, j < N → S.testBit j = true) : wHP h d N S x := fun k hk e => by
  rw [H k hk] at e; cases e
set_option maxHeartbeats 1000000 in
theorem wHP_in {i : Nat} (hi : i < N) (hS : S.testBit i = false) (h1 : wHs (fun j => S.testBit j) h N + h i ≤ d i + x) (h2 : wHP h d N (S ||| 2 ^ i) x) : wHP h d N S x := by
  intro k hk hSk
  by_cases e : k = i
  · subst e
    rcases wHmax d (fun j => !S.testBit j && !decide (j = k) && decide (d j ≤ d k)) N with z | ⟨m, m1, m2, m3⟩
    · have := wHs_set (h := h) (p := fun j => S.testBit j) (q := fun j => S.testBit j || decide (j = k)) hS (fun j => rfl) (k := N)
      rw [if_pos hk] at this
      refine Nat.le_trans (wHs_le (q := fun j => S.testBit j || decide (j = k)) (fun j hj hq => ?_)) (by rw [this]; exact h1)
      have := z j hj
      cases c : S.testBit j
      · rw [c] at this hq
        by_cases ej : j = k
        · simp [ej]
        · simp [ej] at this hq
          omega
      · rfl
    · simp only [Bool.and_eq_true, Bool.not_eq_true', decide_eq_true_eq, decide_eq_false_iff_not] at m2 m3
      have := h2 m m1 (by rw [fb_bit_set, m2.1.1]; simp [m2.1.2])
      refine Nat.le_trans (wHs_le (fun j hj hq => ?_)) (Nat.le_trans this (by omega))
      rw [fb_bit_set]
      by_cases ej : j = k
      · simp [ej]
      · cases c : S.testBit j
        · rw [c] at hq
          simp only [Bool.false_or, decide_eq_true_eq] at hq
          have := m3 j hj ⟨⟨c, ej⟩, hq⟩
          simp [this]
        · rfl
  · have := h2 k hk (by rw [fb_bit_set, hSk]; simp [e])
    refine Nat.le_trans (wHs_le (fun j hj hq => ?_)) this
    rw [fb_bit_set]
    simp only [Bool.or_eq_true] at hq ⊢
    rcases hq with q | q
    · exact Or.inl (Or.inl q)
    · exact Or.inr q
set_option maxHeartbeats 1000000 in
theorem wHP_out {e : Nat} (he : e < N) (hS : S.testBit e = false) (hd : ∀ k, k < N → S.testBit k = false → d e ≤ d k) (H : wHP h d N S x) : wHs (fun j => S.testBit j) h N + h e ≤ d e + x ∧ wHP h d N (S ||| 2 ^ e) x := by
  constructor
  · have := wHs_set (h := h) (p := fun j => S.testBit j) (q := fun j => S.testBit j || decide (j = e)) hS (fun j => rfl) (k := N)
    rw [if_pos he] at this
    rw [← this]
    refine Nat.le_trans (wHs_le (fun j hj hq => ?_)) (H e he hS)
    simp only [Bool.or_eq_true, decide_eq_true_eq] at hq ⊢
    rcases hq with q | q
    · exact Or.inl q
    · subst q; exact Or.inr (Nat.le_refl _)
  · intro k hk hk2
    rw [fb_bit_set] at hk2
    simp only [Bool.or_eq_false_iff, decide_eq_false_iff_not] at hk2
    have dk := hd k hk hk2.1
    refine Nat.le_trans (wHs_le (fun j hj hq => ?_)) (H k hk hk2.1)
    rw [fb_bit_set] at hq
    simp only [Bool.or_eq_true, decide_eq_true_eq] at hq ⊢
    rcases hq with (q | q) | q
    · exact Or.inl q
    · subst q; exact Or.inr dk
    · exact Or.inr q
set_option maxHeartbeats 1000000 in
theorem wHP_big (hh : ∀ j, j < N → h j ≤ 24) (hN : N ≤ 7) : wHP h d N S 1000 := fun k hk _ => by
  have := wHs_bd (p := fun j => S.testBit j || decide (d j ≤ d k)) hh
  omega
set_option maxHeartbeats 1000000 in
theorem wHP_step (hd : ∀ j, j < N → d j ≤ 99) (hS : ∃ j, j < N ∧ S.testBit j = false) : wHP h d N S x ↔ ∃ i, i < N ∧ S.testBit i = false ∧ wHs (fun j => S.testBit j) h N + h i ≤ d i + x ∧ wHP h d N (S ||| 2 ^ i) x := by
  constructor
  · intro H
    rcases wHmin d 99 (fun j => !S.testBit j) N hd with z | ⟨m, m1, m2, m3⟩
    · obtain ⟨j, hj, e⟩ := hS
      have := z j hj
      rw [e] at this
      cases this
    · have m2 : S.testBit m = false := by simpa using m2
      obtain ⟨a, b⟩ := wHP_out m1 m2 (fun k hk e => m3 k hk (by rw [e]; rfl)) H
      exact ⟨m, m1, m2, a, b⟩
  · rintro ⟨i, hi, e, a, b⟩
    exact wHP_in hi e a b
set_option maxHeartbeats 1000000 in
/-- how many are not heard, one fewer -/
theorem wHn_set {i : Nat} (hi : i < N) (hS : S.testBit i = false) : wh_n (fun j => !S.testBit j) N = wh_n (fun j => !(S ||| 2 ^ i).testBit j) N + 1 := by
  have : ∀ n, wh_n (fun j => !S.testBit j) n = wh_n (fun j => !(S ||| 2 ^ i).testBit j) n + (if i < n then 1 else 0) := by
    intro n
    induction n with
    | zero => simp [wh_n]
    | succ n ih =>
      simp only [wh_n, ih, fb_bit_set]
      by_cases e : n = i
      · subst e; simp [hS]
      · by_cases l : i < n
        · simp [e, l, show i < n + 1 by omega]; omega
        · simp [e, l, show ¬ i < n + 1 by omega]
  rw [this N, if_pos hi]
set_option maxHeartbeats 1000000 in
theorem wHn_0 : wh_n (fun j => !S.testBit j) N = 0 → ∀ j, j < N → S.testBit j = true := by
  induction N with
  | zero => intro _ j hj; omega
  | succ n ih =>
    intro e j hj
    simp only [wh_n] at e
    by_cases c : S.testBit n = true
    · by_cases ej : j = n
      · subst ej; exact c
      · exact ih (by omega) j (by omega)
    · simp [c] at e
end HP

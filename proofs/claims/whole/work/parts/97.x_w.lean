/-! bytes into TOKENS -/
def wiL (b : Nat) : Bool := (decide (97 ≤ b) && decide (b ≤ 122)) || (decide (65 ≤ b) && decide (b ≤ 90))
def wiD (b : Nat) : Bool := decide (48 ≤ b) && decide (b ≤ 57)
def wiS (b : Nat) : Bool := b == 59 || b == 43 || b == 45 || b == 42 || b == 47 || b == 40 || b == 41 || b == 60 || b == 61 || b == 62
def wiB (b : Nat) : Bool := b == 32 || b == 10
def wrn (p : Nat → Bool) (n : Nat) : Nat → Nat → Nat
  | 0, i => i
  | d + 1, i => if p i = true then wrn p n d (i + 1) else i
def wrr (p : Nat → Bool) (n i : Nat) : Nat := wrn p n (n - i) i
set_option maxHeartbeats 1000000 in
theorem wrr_end {p : Nat → Bool} {n i : Nat} (h : n ≤ i) : wrr p n i = i := by
  unfold wrr
  rw [show n - i = 0 by omega]
  rfl
set_option maxHeartbeats 1000000 in
theorem wrr_no {p : Nat → Bool} {n i : Nat} (h : ¬ p i = true) : wrr p n i = i := by
  unfold wrr
  rcases hd : n - i with _ | d
  · rfl
  · exact if_neg h
set_option maxHeartbeats 1000000 in
theorem wrr_yes {p : Nat → Bool} {n i : Nat} (hi : i < n) (h : p i = true) : wrr p n i = wrr p n (i + 1) := by
  unfold wrr
  obtain ⟨d, hd⟩ : ∃ d, n - i = d + 1 := ⟨n - i - 1, by omega⟩
  rw [hd, show n - (i + 1) = d by omega]
  exact if_pos h
set_option maxHeartbeats 1000000 in
theorem wrr_f (p : Nat → Bool) (n : Nat) : ∀ d i, i + d = n → i ≤ wrr p n i ∧ wrr p n i ≤ n ∧ (∀ k, i ≤ k → k < wrr p n i → p k = true) ∧ (wrr p n i < n → ¬ p (wrr p n i) = true) := by
  intro d
  induction d with
  | zero =>
    intro i hi
    rw [wrr_end (by omega)]
    exact ⟨Nat.le_refl _, by omega, fun k h1 h2 => by omega, fun h => by omega⟩
  | succ d ih =>
    intro i hi
    by_cases c : p i = true
    · rw [wrr_yes (by omega) c]
      obtain ⟨a1, a2, a3, a4⟩ := ih (i + 1) (by omega)
      refine ⟨by omega, a2, fun k h1 h2 => ?_, a4⟩
      by_cases e : k = i
      · subst e; exact c
      · exact a3 k (by omega) h2
    · rw [wrr_no c]
      exact ⟨Nat.le_refl _, by omega, fun k h1 h2 => by omega, fun _ => c⟩
section TO
variable (t : Nat → Nat) (n : Nat)
def wsk (p : Nat) : Nat := wrr (fun k => wiB (t k)) n p
def wkE (q : Nat) : Nat := if n ≤ q then q else if wiL (t q) = true then wrr (fun k => wiL (t k)) n (q + 1) else if wiD (t q) = true then wrr (fun k => wiD (t k)) n (q + 1) else q + 1
def wdN : Nat → Nat → Nat → Nat
  | _, 0, acc => acc
  | i, d + 1, acc => wdN (i + 1) d (acc * 10 + t i - 48)
def wkS (q : Nat) : Nat := if n ≤ q then 0 else if wiL (t q) = true then (if wcQ (wBy t q (wkE t n q - q)) 26 0 = 0 then 1 else 2) else if wiD (t q) = true then (if wkE t n q - q < 5 then 3 else 1) else if wiS (t q) = true then 4 else 1
def wkV (q : Nat) : Nat := if wiL (t q) = true then (wmQ (wBy t q (wkE t n q - q)) 26 0).toInt.toNat else if wiD (t q) = true then wdN t q (wkE t n q - q) 0 else t q
def wPo : Nat → Nat
  | 0 => 0
  | j + 1 => wkE t n (wsk t n (wPo j))
variable {t n}
set_option maxHeartbeats 1000000 in
theorem wsk_f {p : Nat} (hp : p ≤ n) : p ≤ wsk t n p ∧ wsk t n p ≤ n ∧ (∀ k, p ≤ k → k < wsk t n p → wiB (t k) = true) ∧ (wsk t n p < n → ¬ wiB (t (wsk t n p)) = true) := wrr_f (fun k => wiB (t k)) n (n - p) p (by omega)
set_option maxHeartbeats 1000000 in
theorem wkE_f {q : Nat} (hq : q ≤ n) : q ≤ wkE t n q ∧ wkE t n q ≤ n ∧ (q < n → q < wkE t n q) := by
  unfold wkE
  by_cases c : n ≤ q
  · rw [if_pos c]; exact ⟨Nat.le_refl _, hq, fun h => by omega⟩
  · rw [if_neg c]
    have a := wrr_f (fun k => wiL (t k)) n (n - (q + 1)) (q + 1) (by omega)
    have b := wrr_f (fun k => wiD (t k)) n (n - (q + 1)) (q + 1) (by omega)
    split
    · exact ⟨by omega, a.2.1, fun _ => by omega⟩
    · split
      · exact ⟨by omega, b.2.1, fun _ => by omega⟩
      · exact ⟨by omega, by omega, fun _ => by omega⟩
set_option maxHeartbeats 1000000 in
theorem wPo_le : ∀ j, wPo t n j ≤ n
  | 0 => Nat.zero_le _
  | j + 1 => (wkE_f (wsk_f (wPo_le j)).2.1).2.1
set_option maxHeartbeats 1000000 in
/-- numbers of up to four digits -/
theorem wdN_s : ∀ d i acc, wdN t i (d + 1) acc = wdN t (i + d) 1 (wdN t i d acc)
  | 0, i, acc => rfl
  | d + 1, i, acc => by
    show wdN t (i + 1) (d + 1) (acc * 10 + t i - 48) = _
    rw [wdN_s d (i + 1), show i + 1 + d = i + (d + 1) by omega]
    rfl
set_option maxHeartbeats 1000000 in
theorem wdN_b : ∀ d i acc, (∀ k, i ≤ k → k < i + d → wiD (t k) = true) → wdN t i d acc + 1 ≤ (acc + 1) * 10 ^ d
  | 0, i, acc, h => by simp [wdN]
  | d + 1, i, acc, h => by
    have ih := wdN_b d (i + 1) (acc * 10 + t i - 48) (fun k h1 h2 => h k (by omega) (by omega))
    have d0 := h i (Nat.le_refl _) (by omega)
    simp only [wiD, Bool.and_eq_true, decide_eq_true_eq] at d0
    show wdN t (i + 1) d (acc * 10 + t i - 48) + 1 ≤ _
    refine Nat.le_trans ih ?_
    rw [Nat.pow_succ, Nat.mul_comm (10 ^ d) 10, ← Nat.mul_assoc]
    exact Nat.mul_le_mul_right _ (by omega)
set_option maxHeartbeats 1000000 in
theorem wk_ok {q : Nat} (hq : q ≤ n) : wTv (wkS t n q) (wkV t n q) := by
  unfold wTv wkS wkV
  by_cases c : n ≤ q
  · rw [if_pos c]; exact Or.inl rfl
  · rw [if_neg c]
    by_cases l : wiL (t q) = true
    · rw [if_pos l, if_pos l]
      rcases wQ_both (wBy t q (wkE t n q - q)) with ⟨a, b⟩ | ⟨r, r1, a, b⟩
      · rw [if_pos a]; exact Or.inr (Or.inl rfl)
      · have : wKd 2 r ≠ 0 := by
          have : ∀ r, r < 26 → wKd 2 r ≠ 0 := by decide
          exact this r r1
        rw [if_neg (by rw [a]; exact this), b, nI_toInt (by omega)]
        exact Or.inr (Or.inr (Or.inl ⟨rfl, by show r < 26; exact r1⟩))
    · rw [if_neg l, if_neg l]
      by_cases d : wiD (t q) = true
      · rw [if_pos d, if_pos d]
        by_cases z : wkE t n q - q < 5
        · rw [if_pos z]
          have e : wkE t n q = wrr (fun k => wiD (t k)) n (q + 1) := by
            unfold wkE
            rw [if_neg c, if_neg l, if_pos d]
          have f := wrr_f (fun k => wiD (t k)) n (n - (q + 1)) (q + 1) (by omega)
          rw [← e] at f
          have b := wdN_b (t := t) (wkE t n q - q) q 0 (fun k h1 h2 => by
            by_cases ek : k = q
            · subst ek; exact d
            · exact f.2.2.1 k (by omega) (by omega))
          refine Or.inr (Or.inr (Or.inr (Or.inl ⟨rfl, ?_⟩)))
          have p := Nat.pow_le_pow_right (show 0 < 10 by omega) (show wkE t n q - q ≤ 4 by omega)
          have p4 : (10 : Nat) ^ 4 = 10000 := by decide
          omega
        · rw [if_neg z]; exact Or.inr (Or.inl rfl)
      · rw [if_neg d, if_neg d]
        by_cases s : wiS (t q) = true
        · rw [if_pos s]
          simp only [wiS, Bool.or_eq_true, beq_iff_eq] at s
          exact Or.inr (Or.inr (Or.inr (Or.inr ⟨rfl, by omega, by omega⟩)))
        · rw [if_neg s]; exact Or.inr (Or.inl rfl)
end TO

/-! what is to be combed out: a number for each set, additive, that orders by how many and then by the set -/
def wKy (p : Nat → Bool) : Nat → Nat
  | 0 => 0
  | k + 1 => wKy p k + (if p k = true then 256 + 2 ^ k else 0)
set_option maxHeartbeats 1000000 in
theorem wKy_eq (p : Nat → Bool) : ∀ k, wKy p k = 256 * wh_n p k + wh_m p k
  | 0 => rfl
  | k + 1 => by
    have ih := wKy_eq p k
    have lt := wh_m_lt p k
    simp only [wKy, wh_n, wh_m]
    by_cases c : p k = true
    · have e : wh_m p k ||| 2 ^ k = wh_m p k + 2 ^ k := by
        have := Nat.two_pow_add_eq_or_of_lt lt 1
        rw [Nat.mul_one] at this
        rw [Nat.or_comm, ← this]
        omega
      simp only [c, if_true, e]
      omega
    · simp only [c, if_false, Bool.false_eq_true]
      omega
set_option maxHeartbeats 1000000 in
theorem wKy_le {p q : Nat → Bool} : ∀ {k : Nat}, (∀ i, i < k → p i = true → q i = true) → wKy p k ≤ wKy q k
  | 0, _ => Nat.le_refl _
  | k + 1, h => by
    have ih := wKy_le (p := p) (q := q) (k := k) (fun i hi => h i (by omega))
    simp only [wKy]
    by_cases c : p k = true
    · rw [if_pos c, if_pos (h k (by omega) c)]; omega
    · rw [if_neg c]; omega
set_option maxHeartbeats 1000000 in
theorem wKy_or {p q : Nat → Bool} : ∀ {k : Nat}, (∀ i, i < k → p i = true → q i = true → False) → wKy (fun i => p i || q i) k = wKy p k + wKy q k
  | 0, _ => rfl
  | k + 1, h => by
    have ih := wKy_or (p := p) (q := q) (k := k) (fun i hi => h i (by omega))
    have hk := h k (by omega)
    simp only [wKy, ih]
    by_cases cp : p k = true
    · have cq : ¬ q k = true := fun q' => hk cp q'
      simp only [cp, cq, Bool.true_or, Bool.false_eq_true, if_true, if_false]; omega
    · by_cases cq : q k = true
      · simp only [cp, cq, Bool.or_true, Bool.false_eq_true, if_true, if_false]; omega
      · simp only [Bool.or_eq_true, cp, cq, or_self, Bool.false_eq_true, if_false]; omega
set_option maxHeartbeats 1000000 in
theorem wh_m_or (p q : Nat → Bool) (k : Nat) : wh_m p k ||| wh_m q k = wh_m (fun i => p i || q i) k := by
  apply Nat.eq_of_testBit_eq
  intro i
  rw [Nat.testBit_or, wh_m_bit, wh_m_bit, wh_m_bit]
  cases decide (i < k) <;> simp
set_option maxHeartbeats 1000000 in
theorem wh_m_self {S k : Nat} (h : S < 2 ^ k) : wh_m (fun i => S.testBit i) k = S := by
  apply Nat.eq_of_testBit_eq
  intro i
  rw [wh_m_bit]
  by_cases c : i < k
  · simp [c]
  · have : S.testBit i = false := Nat.testBit_lt_two_pow (Nat.lt_of_lt_of_le h (Nat.pow_le_pow_right (by decide) (by omega)))
    simp [this]
section CB
variable (C R : Nat → Int32) (k : Nat)
def wch (g : Nat) : Bool := decide (wKy (wpN C R (nI g)) k < wKy (wpP C R (nI g)) k)
def wxt (g i : Nat) : Bool := if wch C R k g = true then wpN C R (nI g) i else wpP C R (nI g) i
def wcT : Nat → Nat → Bool
  | 0, _ => false
  | g + 1, i => wcT g i || wxt C R k g i
def wcS (s : Nat → Bool) : Nat → Nat → Bool
  | 0, _ => false
  | g + 1, i => wcS s g i || (s i && decide (C i = nI g))
def wGd (s : Nat → Bool) : Prop := ∀ i j, i < k → j < i → s i = false → s j = false → wIt C R i j = false
variable {C R k}
set_option maxHeartbeats 1000000 in
theorem wxt_C {g i : Nat} (h : wxt C R k g i = true) : C i = nI g := by
  unfold wxt at h
  split at h
  · simp only [wpN, decide_eq_true_eq] at h; exact h.1
  · simp only [wpP, decide_eq_true_eq] at h; exact h.1
set_option maxHeartbeats 1000000 in
theorem wcT_C : ∀ {g i : Nat}, wcT C R k g i = true → ∃ g', g' < g ∧ C i = nI g'
  | 0, i, h => by simp [wcT] at h
  | g + 1, i, h => by
    simp only [wcT, Bool.or_eq_true] at h
    rcases h with h | h
    · obtain ⟨g', a, b⟩ := wcT_C h
      exact ⟨g', by omega, b⟩
    · exact ⟨g, by omega, wxt_C h⟩
set_option maxHeartbeats 1000000 in
theorem wcS_C {s : Nat → Bool} : ∀ {g i : Nat}, wcS C s g i = true → s i = true ∧ ∃ g', g' < g ∧ C i = nI g'
  | 0, i, h => by simp [wcS] at h
  | g + 1, i, h => by
    simp only [wcS, Bool.or_eq_true, Bool.and_eq_true, decide_eq_true_eq] at h
    rcases h with h | h
    · obtain ⟨a0, g', a, b⟩ := wcS_C h
      exact ⟨a0, g', by omega, b⟩
    · exact ⟨h.1, g, by omega, h.2⟩
set_option maxHeartbeats 1000000 in
theorem wcT_in {g i : Nat} (h : wxt C R k g i = true) : ∀ {n : Nat}, g < n → wcT C R k n i = true
  | 0, q => by omega
  | n + 1, q => by
    simp only [wcT, Bool.or_eq_true]
    by_cases e : g = n
    · subst e; exact Or.inr h
    · exact Or.inl (wcT_in h (by omega))
set_option maxHeartbeats 1000000 in
theorem wcT_le {s : Nat → Bool} (hs : ∀ g, g < 8 → (∀ i, i < k → wpN C R (nI g) i = true → s i = true) ∨ (∀ i, i < k → wpP C R (nI g) i = true → s i = true)) : ∀ g, g ≤ 8 → wKy (wcT C R k g) k ≤ wKy (wcS C s g) k
  | 0, _ => by
    refine wKy_le (fun i hi h => ?_)
    simp [wcT] at h
  | g + 1, hg => by
    have ih := wcT_le hs g (by omega)
    have ne : ∀ g', g' < g → nI g' ≠ nI g := fun g' h' e => by
      rw [nI_eq (by omega) (by omega)] at e; omega
    have d1 : wKy (wcT C R k (g + 1)) k = wKy (wcT C R k g) k + wKy (wxt C R k g) k := wKy_or (fun i hi h1 h2 => by
      obtain ⟨g', a, b⟩ := wcT_C h1
      exact ne g' a (b.symm.trans (wxt_C h2)))
    have d2 : wKy (wcS C s (g + 1)) k = wKy (wcS C s g) k + wKy (fun i => s i && decide (C i = nI g)) k := wKy_or (fun i hi h1 h2 => by
      obtain ⟨-, g', a, b⟩ := wcS_C h1
      simp only [Bool.and_eq_true, decide_eq_true_eq] at h2
      exact ne g' a (b.symm.trans h2.2))
    have d3 : wKy (wxt C R k g) k ≤ wKy (fun i => s i && decide (C i = nI g)) k := by
      have a1 : wKy (wxt C R k g) k ≤ wKy (wpN C R (nI g)) k ∧ wKy (wxt C R k g) k ≤ wKy (wpP C R (nI g)) k := by
        by_cases c : wch C R k g = true
        · have e : wxt C R k g = wpN C R (nI g) := by funext i; unfold wxt; rw [if_pos c]
          rw [e]
          simp only [wch, decide_eq_true_eq] at c
          omega
        · have e : wxt C R k g = wpP C R (nI g) := by funext i; unfold wxt; rw [if_neg c]
          rw [e]
          simp only [wch, decide_eq_true_eq] at c
          omega
      rcases hs g (by omega) with q | q
      · refine Nat.le_trans a1.1 (wKy_le (fun i hi h => ?_))
        have e := q i hi h
        simp only [wpN, decide_eq_true_eq] at h
        simp only [Bool.and_eq_true, decide_eq_true_eq]
        exact ⟨e, h.1⟩
      · refine Nat.le_trans a1.2 (wKy_le (fun i hi h => ?_))
        have e := q i hi h
        simp only [wpP, decide_eq_true_eq] at h
        simp only [Bool.and_eq_true, decide_eq_true_eq]
        exact ⟨e, h.1⟩
    omega
set_option maxHeartbeats 1000000 in
theorem wGd_cov {s : Nat → Bool} (h : wGd C R k s) (g : Nat) : (∀ i, i < k → wpN C R (nI g) i = true → s i = true) ∨ (∀ i, i < k → wpP C R (nI g) i = true → s i = true) := by
  by_cases c : ∀ i, i < k → wpN C R (nI g) i = true → s i = true
  · exact Or.inl c
  · refine Or.inr (fun j hj hpj => ?_)
    obtain ⟨i, hc⟩ := Classical.not_forall.1 c
    have hi : i < k := by
      by_cases q : i < k
      · exact q
      · exact (hc (fun q' => absurd q' q)).elim
    have hp : wpN C R (nI g) i = true := by
      by_cases q : wpN C R (nI g) i = true
      · exact q
      · exact (hc (fun _ q' => absurd q' q)).elim
    have hsi : s i = false := by
      cases q : s i
      · rfl
      · exact (hc (fun _ _ => q)).elim
    cases hsj : s j
    · simp only [wpN, wpP, decide_eq_true_eq] at hp hpj
      have hne : i ≠ j := by
        rintro rfl
        have h1 := (wx_nle0 (R i)).1 hp.2
        have h2 := (wx_nle0' (R i)).1 hpj.2
        omega
      rcases Nat.lt_or_ge j i with l | l
      · have := h i j hi l hsi hsj
        simp only [wIt, decide_eq_false_iff_not] at this
        exact (this ⟨hp.1.trans hpj.1.symm, Or.inl ⟨hp.2, hpj.2⟩⟩).elim
      · have := h j i hj (by omega) hsj hsi
        simp only [wIt, decide_eq_false_iff_not] at this
        exact (this ⟨hpj.1.trans hp.1.symm, Or.inr ⟨hpj.2, hp.2⟩⟩).elim
    · rfl
set_option maxHeartbeats 1000000 in
theorem wcT_gd (hC : ∀ i, i < k → ∃ c, c < 8 ∧ C i = nI c) : wGd C R k (wcT C R k 8) := by
  intro i j hi hj h1 h2
  obtain ⟨g, hg, eg⟩ := hC i hi
  have n1 : wxt C R k g i ≠ true := fun q => by rw [wcT_in q hg] at h1; exact absurd h1 (by decide)
  have n2 : wxt C R k g j ≠ true := fun q => by rw [wcT_in q hg] at h2; exact absurd h2 (by decide)
  simp only [wIt, decide_eq_false_iff_not]
  rintro ⟨ec, q⟩
  have eg2 : C j = nI g := ec.symm.trans eg
  by_cases c : wch C R k g = true
  · simp only [wxt, c, if_true, wpN, ne_eq, decide_eq_true_eq] at n1 n2
    rcases q with ⟨a, b⟩ | ⟨a, b⟩
    · exact n1 ⟨eg, a⟩
    · exact n2 ⟨eg2, b⟩
  · simp only [wxt, c, if_false, wpP, ne_eq, decide_eq_true_eq, Bool.false_eq_true] at n1 n2
    rcases q with ⟨a, b⟩ | ⟨a, b⟩
    · exact n2 ⟨eg2, b⟩
    · exact n1 ⟨eg, a⟩
set_option maxHeartbeats 1000000 in
theorem wcT_least {s : Nat → Bool} (h : wGd C R k s) : wKy (wcT C R k 8) k ≤ wKy s k :=
  Nat.le_trans (wcT_le (fun g _ => wGd_cov h g) 8 (by omega)) (wKy_le (fun i _ q => (wcS_C q).1))
end CB

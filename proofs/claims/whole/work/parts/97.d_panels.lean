/-! PANELS: masks of three -/
set_option maxHeartbeats 1000000 in
theorem wl_cmp1 : ∀ b, b < 1024 → nI 1023 &&& (nI b ^^^ -nI 1) = nI (1023 ^^^ b) := by decide +kernel
set_option maxHeartbeats 1000000 in
theorem wl_x1023 (b : Nat) (h : b < 1024) : 1023 ^^^ b < 1024 := Nat.xor_lt_two_pow (n := 10) (by omega) h
set_option maxHeartbeats 1000000 in
theorem wl_and1024 {a b : Nat} (h : a < 1024) : a &&& b < 1024 := Nat.lt_of_le_of_lt Nat.and_le_left h
set_option maxHeartbeats 1000000 in
theorem wl_cmp {a b : Nat} (ha : a < 1024) (hb : b < 1024) : nI a &&& (nI b ^^^ -nI 1) = nI (a &&& (1023 ^^^ b)) := by
  have h1 : nI a = nI a &&& nI 1023 := by
    have e : nI a &&& nI 1023 = nI (a &&& 1023) := by simp -implicitDefEqProofs (disch := omega) only [fa_and]
    rw [e, show (1023 : Nat) = 2 ^ 10 - 1 from rfl, Nat.and_two_pow_sub_one_of_lt_two_pow ha]
  have hx := wl_x1023 b hb
  rw [h1, Int32.and_assoc, wl_cmp1 b hb]
  simp -implicitDefEqProofs (disch := omega) only [fa_and]
set_option maxHeartbeats 1000000 in
theorem wl_xb {b i : Nat} (hi : i < 10) : (1023 ^^^ b).testBit i = !b.testBit i := by
  rw [Nat.testBit_xor, show (1023 : Nat) = 2 ^ 10 - 1 from rfl, Nat.testBit_two_pow_sub_one]
  simp [hi]
set_option maxHeartbeats 1000000 in
theorem wh_pc_k {y k : Nat} (hk : k ≤ 10) (hy : y < 2 ^ k) : wh_pc y = wh_n (fun i => y.testBit i) k := by
  unfold wh_pc
  rw [← wh_n_cut (fun i => y.testBit i) k 10 hk]
  refine wh_n_cg (fun i _ => ?_)
  by_cases c : i < k
  · simp [c]
  · have : y.testBit i = false := Nat.testBit_lt_two_pow (Nat.lt_of_lt_of_le hy (Nat.pow_le_pow_right (by omega) (by omega)))
    simp [c, this]
set_option maxHeartbeats 1000000 in
theorem wh_n_z {p : Nat → Bool} : ∀ {k : Nat}, wh_n p k = 0 ↔ ∀ i, i < k → p i = false
  | 0 => ⟨fun _ i hi => by omega, fun _ => rfl⟩
  | k + 1 => by
    have ih := wh_n_z (p := p) (k := k)
    simp only [wh_n]
    constructor
    · intro h i hi
      have h1 : wh_n p k = 0 := by omega
      by_cases c : i = k
      · subst c
        cases hp : p i with
        | false => rfl
        | true => rw [hp] at h; simp at h
      · exact ih.mp h1 i (by omega)
    · intro h
      rw [ih.mpr (fun i hi => h i (by omega)), h k (by omega)]
      simp
set_option maxHeartbeats 1000000 in
theorem wct_sum {c : Nat → Nat} (hc : ∀ i, c i < 4) (x : Nat) : ∀ k, wh_n (fun i => x.testBit i) k = wct c 1 x k + wct c 2 x k + wct c 3 x k + wct c 0 x k
  | 0 => rfl
  | k + 1 => by
    have ih := wct_sum hc x k
    unfold wct at ih ⊢
    simp only [wh_n]
    rw [ih]
    by_cases hb : x.testBit k = true
    · rcases (show c k = 0 ∨ c k = 1 ∨ c k = 2 ∨ c k = 3 by have := hc k; omega) with q | q | q | q <;> simp [q, hb] <;> omega
    · simp [hb]
set_option maxHeartbeats 1000000 in
theorem wh_n_or {p q r : Nat → Bool} : ∀ {k : Nat}, (∀ i, i < k → (r i = (p i || q i)) ∧ (p i && q i) = false) → wh_n r k = wh_n p k + wh_n q k
  | 0, _ => rfl
  | k + 1, h => by
    have ih := wh_n_or (p := p) (q := q) (r := r) (k := k) (fun i hi => h i (by omega))
    obtain ⟨h1, h2⟩ := h k (by omega)
    simp only [wh_n]
    rw [ih]
    cases hp : p k <;> cases hq : q k <;> simp [hp, hq] at h1 h2 ⊢ <;> simp [h1] <;> omega
set_option maxHeartbeats 1000000 in
theorem wPk_lt (τ : wg_M) (V : Nat → Nat) (o : Option Nat) (j : Nat) : wPk τ V o j < 4 := by
  unfold wPk; split
  · split
    · omega
    · split <;> omega
  · omega
set_option maxHeartbeats 1000000 in
theorem wh_p3 : ∀ p, p ≤ 10 → ∀ q, q ≤ 10 → (nI p * (nI p - nI 1) * (nI p - nI 2)) / nI 6 + (nI p * (nI p - nI 1)) / nI 2 * nI q = nI (wcC p 3 * wcC q 0 * 1 + wcC p 2 * wcC q 1 * 1) := by decide +kernel
set_option maxHeartbeats 1000000 in
theorem wcC_1 : ∀ n, wcC n 1 = n
  | 0 => rfl
  | n + 1 => by rw [wcC_s, wcC_0, wcC_1 n]; omega
section PB
variable {nj : Nat} {τ : wg_M} {V : Nat → Nat}
/-- the mask of those alive -/
def wMA (nj : Nat) (τ : wg_M) : Nat := (2 ^ nj - 1) &&& (1023 ^^^ wh_m (wDs τ) nj)
set_option maxHeartbeats 1000000 in
theorem wMA_bit (hnj : nj ≤ 10) {i : Nat} (hi : i < nj) : (wMA nj τ).testBit i = !wDs τ i := by
  unfold wMA
  rw [Nat.testBit_and, Nat.testBit_two_pow_sub_one, wl_xb (by omega), wh_m_bit]
  simp [hi]
set_option maxHeartbeats 1000000 in
theorem wMA_in (hnj : nj ≤ 10) (hd : ∀ i, i < nj → τ 1 (23 + i) = nI 0 ∨ τ 1 (23 + i) = nI 1) {x : Nat} (hx : x < 2 ^ nj) (o : Option Nat) : x &&& (1023 ^^^ wMA nj τ) = 0 ↔ wct (wPk τ V o) 0 x nj = 0 := by
  have h01 : ¬ nI 0 = nI 1 := by decide
  have h10 : ¬ nI 1 = nI 0 := by decide
  unfold wct
  rw [wh_n_z]
  have key : ∀ i, i < nj → ((x &&& (1023 ^^^ wMA nj τ)).testBit i = (x.testBit i && decide (wPk τ V o i = 0))) := fun i hi => by
    rw [Nat.testBit_and, wl_xb (by omega), wMA_bit hnj hi]
    congr 1
    unfold wDs wPk
    rcases hd i hi with q | q
    · rw [q]
      simp only [h01, decide_false, Bool.not_false, Bool.not_true, if_true]
      split
      · rfl
      · split <;> rfl
    · rw [q]
      simp only [h10, decide_true, Bool.not_true, Bool.not_false, if_false]
  constructor
  · intro e i hi
    rw [← key i hi, e]
    exact Nat.zero_testBit i
  · intro e
    apply Nat.eq_of_testBit_eq
    intro i
    rw [Nat.zero_testBit]
    by_cases c : i < nj
    · rw [key i c]; exact e i c
    · rw [Nat.testBit_and, Nat.testBit_lt_two_pow (Nat.lt_of_lt_of_le hx (Nat.pow_le_pow_right (by omega) (by omega)))]
      rfl
set_option maxHeartbeats 1000000 in
theorem wFs_ct (hnj : nj ≤ 10) {x : Nat} (hx : x < 2 ^ nj) : wh_pc (x &&& wh_m (wFs τ V) nj) = wct (wPk τ V none) 1 x nj := by
  rw [wh_pc_k hnj (Nat.lt_of_le_of_lt Nat.and_le_left hx)]
  unfold wct
  refine wh_n_cg (fun i hi => ?_)
  rw [Nat.testBit_and, wh_m_bit]
  congr 1
  unfold wFs wPk
  by_cases c1 : τ 1 (23 + i) = nI 0
  · by_cases c2 : V i ≤ 999
    · simp [hi, c1, c2]
    · simp [hi, c1, c2]
  · simp [c1]
set_option maxHeartbeats 1000000 in
theorem wFs_cj (hnj : nj ≤ 10) {j : Nat} (hj : j < nj) {x : Nat} (hx : x < 2 ^ nj) : wh_pc ((x &&& wh_m (wFs τ V) nj) &&& (1023 ^^^ 2 ^ j)) = wct (wPk τ V (some j)) 1 x nj := by
  rw [wh_pc_k hnj (Nat.lt_of_le_of_lt Nat.and_le_left (Nat.lt_of_le_of_lt Nat.and_le_left hx))]
  unfold wct
  refine wh_n_cg (fun i hi => ?_)
  rw [Nat.testBit_and, Nat.testBit_and, wh_m_bit, wl_xb (by omega), Nat.testBit_two_pow, Bool.and_assoc]
  congr 1
  unfold wFs wPk
  by_cases c1 : τ 1 (23 + i) = nI 0
  · by_cases c3 : j = i
    · subst c3; simp [hi, c1]
    · by_cases c2 : V i ≤ 999
      · simp [hi, c1, c2, c3]
      · simp [hi, c1, c2, c3]
  · simp [c1]
end PB

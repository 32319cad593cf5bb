/-! how many sets: bits of four kinds -/
def wcC : Nat → Nat → Nat
  | _, 0 => 1
  | 0, _ + 1 => 0
  | n + 1, a + 1 => wcC n a + wcC n (a + 1)
set_option maxHeartbeats 1000000 in
theorem wh_n_add (p : Nat → Bool) (a : Nat) : ∀ b, wh_n p (a + b) = wh_n p a + wh_n (fun x => p (a + x)) b
  | 0 => rfl
  | b + 1 => by
    rw [show a + (b + 1) = (a + b) + 1 by omega]
    simp only [wh_n]
    rw [wh_n_add p a b]
    omega
/-- how many bits of x below k are of kind e -/
def wct (c : Nat → Nat) (e x k : Nat) : Nat := wh_n (fun i => x.testBit i && decide (c i = e)) k
/-- how many there are of kind e below k -/
def wck (c : Nat → Nat) (e k : Nat) : Nat := wh_n (fun i => decide (c i = e)) k
set_option maxHeartbeats 1000000 in
theorem wct_lo {c : Nat → Nat} {e x k : Nat} (hx : x < 2 ^ k) : wct c e x (k + 1) = wct c e x k := by
  unfold wct
  simp only [wh_n]
  have h1 : x.testBit k = false := Nat.testBit_lt_two_pow hx
  simp only [h1, Bool.false_and, Bool.false_eq_true, if_false, Nat.add_zero]
set_option maxHeartbeats 1000000 in
theorem wct_hi {c : Nat → Nat} {e x k : Nat} (hx : x < 2 ^ k) : wct c e (2 ^ k + x) (k + 1) = wct c e x k + (if c k = e then 1 else 0) := by
  unfold wct
  simp only [wh_n]
  have h1 : (2 ^ k + x).testBit k = true := by
    rw [Nat.testBit_two_pow_add_eq, Nat.testBit_lt_two_pow hx]; rfl
  have h2 : wh_n (fun i => (2 ^ k + x).testBit i && decide (c i = e)) k = wh_n (fun i => x.testBit i && decide (c i = e)) k := wh_n_cg (fun i hi => by
    rw [Nat.testBit_two_pow_add_gt hi])
  simp only [h1, h2, Bool.true_and, decide_eq_true_eq]
def wcq (c : Nat → Nat) (a b e k x : Nat) : Bool := decide (wct c 1 x k = a ∧ wct c 2 x k = b ∧ wct c 3 x k = e ∧ wct c 0 x k = 0)
set_option maxHeartbeats 1000000 in
theorem wcC_s (n a : Nat) : wcC (n + 1) (a + 1) = wcC n a + wcC n (a + 1) := rfl
set_option maxHeartbeats 1000000 in
theorem wcC_0 (n : Nat) : wcC n 0 = 1 := by cases n <;> rfl
set_option maxHeartbeats 1000000 in
theorem wcN_step {c : Nat → Nat} (hc : ∀ i, c i < 4) {a b e k : Nat} : wh_n (wcq c a b e (k + 1)) (2 ^ (k + 1)) = wh_n (wcq c a b e k) (2 ^ k) + wh_n (fun x => decide (wct c 1 x k + (if c k = 1 then 1 else 0) = a ∧ wct c 2 x k + (if c k = 2 then 1 else 0) = b ∧ wct c 3 x k + (if c k = 3 then 1 else 0) = e ∧ wct c 0 x k + (if c k = 0 then 1 else 0) = 0)) (2 ^ k) := by
  rw [show 2 ^ (k + 1) = 2 ^ k + 2 ^ k by rw [Nat.pow_succ]; omega, wh_n_add]
  have e1 : wh_n (wcq c a b e (k + 1)) (2 ^ k) = wh_n (wcq c a b e k) (2 ^ k) := wh_n_cg (fun x hx => by
    unfold wcq
    rw [wct_lo hx, wct_lo hx, wct_lo hx, wct_lo hx])
  have e2 : wh_n (fun x => wcq c a b e (k + 1) (2 ^ k + x)) (2 ^ k) = wh_n (fun x => decide (wct c 1 x k + (if c k = 1 then 1 else 0) = a ∧ wct c 2 x k + (if c k = 2 then 1 else 0) = b ∧ wct c 3 x k + (if c k = 3 then 1 else 0) = e ∧ wct c 0 x k + (if c k = 0 then 1 else 0) = 0)) (2 ^ k) := wh_n_cg (fun x hx => by
    unfold wcq
    rw [wct_hi hx, wct_hi hx, wct_hi hx, wct_hi hx])
  rw [e1, e2]
set_option maxHeartbeats 1000000 in
theorem wcN {c : Nat → Nat} (hc : ∀ i, c i < 4) : ∀ k a b e, wh_n (wcq c a b e k) (2 ^ k) = wcC (wck c 1 k) a * wcC (wck c 2 k) b * wcC (wck c 3 k) e := by
  intro k
  induction k with
  | zero =>
    intro a b e
    show wh_n (wcq c a b e 0) 1 = wcC 0 a * wcC 0 b * wcC 0 e
    simp only [wh_n, wcq, wct]
    cases a <;> cases b <;> cases e <;> simp [wcC]
  | succ k ih =>
    intro a b e
    rw [wcN_step hc, ih a b e]
    have k1 : ∀ t, wck c t (k + 1) = wck c t k + (if c k = t then 1 else 0) := fun t => by
      unfold wck; simp only [wh_n]; simp
    rw [k1 1, k1 2, k1 3]
    rcases (show c k = 0 ∨ c k = 1 ∨ c k = 2 ∨ c k = 3 by have := hc k; omega) with q | q | q | q
    · rw [wh_n_0 (fun x _ => by simp [q])]
      simp [q]
    · cases a with
      | zero =>
        rw [wh_n_0 (fun x _ => by simp [q])]
        simp [q, wcC_0]
      | succ a =>
        have e2 : wh_n (fun x => decide (wct c 1 x k + (if c k = 1 then 1 else 0) = a + 1 ∧ wct c 2 x k + (if c k = 2 then 1 else 0) = b ∧ wct c 3 x k + (if c k = 3 then 1 else 0) = e ∧ wct c 0 x k + (if c k = 0 then 1 else 0) = 0)) (2 ^ k) = wh_n (wcq c a b e k) (2 ^ k) := wh_n_cg (fun x _ => by simp [q, wcq])
        rw [e2, ih a b e]
        simp only [q, if_true, show ¬ (1 = 2) by omega, show ¬ (1 = 3) by omega, if_false, Nat.add_zero, wcC_s]
        rw [← Nat.add_mul, ← Nat.add_mul, Nat.add_comm (wcC _ (a + 1))]
    · cases b with
      | zero =>
        rw [wh_n_0 (fun x _ => by simp [q])]
        simp [q, wcC_0]
      | succ b =>
        have e2 : wh_n (fun x => decide (wct c 1 x k + (if c k = 1 then 1 else 0) = a ∧ wct c 2 x k + (if c k = 2 then 1 else 0) = b + 1 ∧ wct c 3 x k + (if c k = 3 then 1 else 0) = e ∧ wct c 0 x k + (if c k = 0 then 1 else 0) = 0)) (2 ^ k) = wh_n (wcq c a b e k) (2 ^ k) := wh_n_cg (fun x _ => by simp [q, wcq])
        rw [e2, ih a b e]
        simp only [q, if_true, show ¬ (2 = 1) by omega, show ¬ (2 = 3) by omega, if_false, Nat.add_zero, wcC_s]
        rw [← Nat.add_mul, ← Nat.mul_add, Nat.add_comm (wcC _ (b + 1))]
    · cases e with
      | zero =>
        rw [wh_n_0 (fun x _ => by simp [q])]
        simp [q, wcC_0]
      | succ e =>
        have e2 : wh_n (fun x => decide (wct c 1 x k + (if c k = 1 then 1 else 0) = a ∧ wct c 2 x k + (if c k = 2 then 1 else 0) = b ∧ wct c 3 x k + (if c k = 3 then 1 else 0) = e + 1 ∧ wct c 0 x k + (if c k = 0 then 1 else 0) = 0)) (2 ^ k) = wh_n (wcq c a b e k) (2 ^ k) := wh_n_cg (fun x _ => by simp [q, wcq])
        rw [e2, ih a b e]
        simp only [q, if_true, show ¬ (3 = 1) by omega, show ¬ (3 = 2) by omega, if_false, Nat.add_zero, wcC_s]
        rw [← Nat.mul_add, Nat.add_comm (wcC _ (e + 1))]

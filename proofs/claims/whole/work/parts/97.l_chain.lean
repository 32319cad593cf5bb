/-! one bit of a mask -/
set_option maxHeartbeats 1000000 in
theorem wx_shr {S a : Nat} (hS : S < 2 ^ 31) (ha : a < 31) : nI S >>> nI a = nI (S / 2 ^ a) := by
  apply Int32.toBitVec_inj.1
  rw [Int32.toBitVec_shiftRight]
  have e : (nI a).toBitVec.smod 32 = BitVec.ofNat 32 a := by
    have : ∀ a, a < 31 → (nI a).toBitVec.smod 32 = BitVec.ofNat 32 a := by decide +kernel
    exact this a ha
  rw [e]
  show (BitVec.ofNat 32 S).sshiftRight (BitVec.ofNat 32 a).toNat = BitVec.ofNat 32 (S / 2 ^ a)
  apply BitVec.eq_of_getLsbD_eq
  intro i hi
  have hm : (BitVec.ofNat 32 S).msb = false := by
    rw [BitVec.msb_eq_false_iff_two_mul_lt]
    rw [BitVec.toNat_ofNat]
    omega
  have e2 : (BitVec.ofNat 32 a).toNat = a := by rw [BitVec.toNat_ofNat]; omega
  rw [BitVec.getLsbD_sshiftRight, hm, e2, BitVec.getLsbD_ofNat, BitVec.getLsbD_ofNat, Nat.testBit_div_two_pow, Nat.add_comm i a]
  by_cases c : a + i < 32
  · simp [c, hi, Nat.not_le.2 hi]
  · have : S.testBit (a + i) = false := Nat.testBit_lt_two_pow (Nat.lt_of_lt_of_le hS (Nat.pow_le_pow_right (by decide) (by omega)))
    simp [c, this]
set_option maxHeartbeats 1000000 in
theorem wx_bit {S a : Nat} (hS : S < 2147483648) (ha : a < 31) : (nI S >>> (nI a &&& nI 31)) &&& nI 1 = if S.testBit a = true then nI 1 else nI 0 := by
  rw [wx_and31 (by omega), wx_shr (by omega) ha, fa_and, Nat.and_one_is_mod, Nat.testBit_eq_decide_div_mod_eq]
  rcases Nat.mod_two_eq_zero_or_one (S / 2 ^ a) with e | e <;> simp [e]
set_option maxHeartbeats 1000000 in
theorem wl_has1 {S c : Nat} (hS : S < 2147483648) (hc : c < 31) (h : S.testBit c = true) (τ : wg_M) : f_X12_has 0 (nI S) (nI c) τ = some (nI 1, τ) := by
  have bt := wx_bit hS hc
  rw [if_pos h] at bt
  simp -implicitDefEqProofs (disch := omega) only [e_X12_has, bt, wx_bd, wx_let, wx_st, wx_lit, wx_ga, wx_sa, pk_mul, nI_add, wx_le, wx_lt, wx_eq, wx_en, wx_ne', wx_nn, wx_ltn, wx_len, wx_nlt, wx_nle, wx_bz0, wx_bz1, if_pos, if_neg, wx_ite, Nat.reduceEqDiff, eq_self, if_true, if_false, not_true_eq_false, not_false_eq_true]
set_option maxHeartbeats 1000000 in
theorem wl_has0 {S c : Nat} (hS : S < 2147483648) (hc : c < 31) (h : ¬ S.testBit c = true) (τ : wg_M) : f_X12_has 0 (nI S) (nI c) τ = some (nI 0, τ) := by
  have bt := wx_bit hS hc
  rw [if_neg h] at bt
  have h01 : ¬ nI 0 = nI 1 := by decide
  simp -implicitDefEqProofs (disch := omega) only [e_X12_has, bt, h01, wx_bd, wx_let, wx_st, wx_lit, wx_ga, wx_sa, pk_mul, nI_add, wx_le, wx_lt, wx_eq, wx_en, wx_ne', wx_nn, wx_ltn, wx_len, wx_nlt, wx_nle, wx_bz0, wx_bz1, if_pos, if_neg, wx_ite, Nat.reduceEqDiff, eq_self, if_true, if_false, not_true_eq_false, not_false_eq_true]
section LF
variable {τ0 : wg_M} {m : Nat → Nat}
set_option maxHeartbeats 1000000 in
theorem wmx_bd {v : Nat → Nat} {a B : Nat} : ∀ k, (∀ c, c < k → v c ≤ B) → wmx m v a k ≤ B
  | 0, _ => Nat.zero_le _
  | k + 1, h => by
    have ih := wmx_bd (v := v) (a := a) (B := B) k (fun c hc => h c (by omega))
    have := h k (by omega)
    simp only [wmx]
    split <;> omega
set_option maxHeartbeats 1000000 in
theorem wl_lf (hm : ∀ a, a < 14 → τ0 27 a = nI (m a) ∧ m a < 16384) {v : Nat → Nat} {τ : wg_M} {a : Nat} (ha : a < 14) (hs : ∀ x, x ≠ 28 → τ x = τ0 x) (hL : wLm τ v) (hb : ∀ x, x < 14 → v x ≤ 1000000) : ∀ d k f, k + d = 14 → d < f → f_X12_longestFrom_4 f 0 (nI a) (nI (wmx m v a k)) (nI k) τ = some (nI (wmx m v a 14 + 1), τ) := by
  intro d
  induction d with
  | zero =>
    intro k f hk hf
    obtain ⟨f, rfl⟩ : ∃ k, f = k + 1 := ⟨f - 1, by omega⟩
    obtain rfl : k = 14 := by omega
    simp -implicitDefEqProofs (disch := omega) only [e_X12_longestFrom_4, e_X12_longestFrom_4__1, e_X12_longestFrom_4__2, e_X12_longestFrom_4__3, e_X12_longestFrom_4__4, wx_bd, wx_let, wx_st, wx_lit, wx_ga, wx_sa, pk_mul, nI_add, wx_le, wx_lt, wx_eq, wx_en, wx_ne', wx_nn, wx_ltn, wx_len, wx_nlt, wx_nle, wx_bz0, wx_bz1, if_pos, if_neg, wx_ite, Nat.reduceEqDiff, eq_self, if_true, if_false, not_true_eq_false, not_false_eq_true]
  | succ d ih =>
    intro k f hk hf
    obtain ⟨f, rfl⟩ : ∃ k, f = k + 1 := ⟨f - 1, by omega⟩
    have := ih (k + 1) f (by omega) (by omega)
    obtain ⟨m1, m2⟩ := hm a ha
    have t1 : τ 27 a = nI (m a) := by rw [hs 27 (by omega)]; exact m1
    have l := hL k (by omega)
    have hb1 := hb k (by omega)
    have hb2 : wmx m v a k ≤ 1000000 := wmx_bd k (fun c hc => hb c (by omega))
    by_cases c : (m a).testBit k = true
    · have e := wl_has1 (show m a < 2147483648 by omega) (show k < 31 by omega) c τ
      have w : wmx m v a (k + 1) = max (wmx m v a k) (v k) := by simp only [wmx, c, if_true]
      rw [w] at this
      by_cases q : wmx m v a k ≤ v k
      · rw [Nat.max_eq_right q] at this
        simp -implicitDefEqProofs (disch := omega) only [e_X12_longestFrom_4, e_X12_longestFrom_4__1, e_X12_longestFrom_4__2, e_X12_longestFrom_4__3, e_X12_longestFrom_4__4, e_X12_longestFrom_36, e_X12_longestFrom_36__1, e_X12_greater, t1, e, l, wx_bd, wx_let, wx_st, wx_lit, wx_ga, wx_sa, pk_mul, nI_add, wx_le, wx_lt, wx_eq, wx_en, wx_ne', wx_nn, wx_ltn, wx_len, wx_nlt, wx_nle, wx_bz0, wx_bz1, if_pos, if_neg, wx_ite, Nat.reduceEqDiff, eq_self, if_true, if_false, not_true_eq_false, not_false_eq_true]
        exact this
      · rw [Nat.max_eq_left (by omega)] at this
        simp -implicitDefEqProofs (disch := omega) only [e_X12_longestFrom_4, e_X12_longestFrom_4__1, e_X12_longestFrom_4__2, e_X12_longestFrom_4__3, e_X12_longestFrom_4__4, e_X12_longestFrom_36, e_X12_longestFrom_36__1, e_X12_greater, t1, e, l, wx_bd, wx_let, wx_st, wx_lit, wx_ga, wx_sa, pk_mul, nI_add, wx_le, wx_lt, wx_eq, wx_en, wx_ne', wx_nn, wx_ltn, wx_len, wx_nlt, wx_nle, wx_bz0, wx_bz1, if_pos, if_neg, wx_ite, Nat.reduceEqDiff, eq_self, if_true, if_false, not_true_eq_false, not_false_eq_true]
        exact this
    · have e := wl_has0 (show m a < 2147483648 by omega) (show k < 31 by omega) c τ
      have w : wmx m v a (k + 1) = wmx m v a k := by simp only [wmx, c, if_false]; rfl
      rw [w] at this
      simp -implicitDefEqProofs (disch := omega) only [e_X12_longestFrom_4, e_X12_longestFrom_4__1, e_X12_longestFrom_4__2, e_X12_longestFrom_4__3, e_X12_longestFrom_4__4, e_X12_longestFrom_36, e_X12_longestFrom_36__1, t1, e, wx_bd, wx_let, wx_st, wx_lit, wx_ga, wx_sa, pk_mul, nI_add, wx_le, wx_lt, wx_eq, wx_en, wx_ne', wx_nn, wx_ltn, wx_len, wx_nlt, wx_nle, wx_bz0, wx_bz1, if_pos, if_neg, wx_ite, Nat.reduceEqDiff, eq_self, if_true, if_false, not_true_eq_false, not_false_eq_true]
      exact this
set_option maxHeartbeats 1000000 in
theorem wl_lF (hm : ∀ a, a < 14 → τ0 27 a = nI (m a) ∧ m a < 16384) {v : Nat → Nat} {τ : wg_M} {a : Nat} (ha : a < 14) (hs : ∀ x, x ≠ 28 → τ x = τ0 x) (hL : wLm τ v) (hb : ∀ x, x < 14 → v x ≤ 1000000) : f_X12_longestFrom 0 (nI a) τ = some (nI (wmx m v a 14 + 1), τ) := by
  have := wl_lf hm ha hs hL hb 14 0 wg_N (by omega) (by rw [wx_N]; omega)
  rw [e_X12_longestFrom]
  exact this
/-- a round -/
def wrp (m : Nat → Nat) (v : Nat → Nat) (i : Nat) : Nat → Nat := fun x => if x = i then wmx m v i 14 + 1 else v x
def wrw (m : Nat → Nat) : Nat → Nat → (Nat → Nat) → (Nat → Nat)
  | 0, _, v => v
  | d + 1, i, v => wrw m d (i + 1) (wrp m v i)
set_option maxHeartbeats 1000000 in
theorem wrw_bd : ∀ d i B v, i + d ≤ 14 → (∀ x, x < 14 → v x ≤ B) → ∀ x, x < 14 → wrw m d i v x ≤ B + d
  | 0, _, _, _, _, h => h
  | d + 1, i, B, v, hi, h => by
    intro x hx
    have := wrw_bd d (i + 1) (B + 1) (wrp m v i) (by omega) (fun y hy => by
      have h1 := h y hy
      have h2 : wmx m v i 14 ≤ B := wmx_bd 14 h
      unfold wrp
      split <;> omega) x hx
    show wrw m d (i + 1) (wrp m v i) x ≤ B + (d + 1)
    omega
set_option maxHeartbeats 1000000 in
/-- what is right of it: below u, and right where u is at most r + 1 -/
theorem wrp_ok {u v : Nat → Nat} {r i : Nat} (hi : i < 14) (hu : wSt (fun a c => (m a).testBit c = true) u) (h1 : ∀ x, x < 14 → v x ≤ u x) (h2 : ∀ x, x < 14 → u x ≤ r + 1 → v x = u x) : (∀ x, x < 14 → wrp m v i x ≤ u x) ∧ (∀ x, x < 14 → u x ≤ r + 1 → wrp m v i x = u x) ∧ (u i ≤ r + 2 → wrp m v i i = u i) := by
  have up : wmx m v i 14 + 1 ≤ u i := by
    rcases wmx_hit (m := m) (v := v) (a := i) 14 with q | ⟨c, hc, hb, q⟩
    · have := wSt_pos hu hi; omega
    · have e1 := h1 c hc
      have e2 := hu.1 i c hi hc hb
      omega
  have eq : u i ≤ r + 2 → wmx m v i 14 + 1 = u i := fun hr => by
    rcases hu.2 i hi with q | ⟨q1, c, hc, hb, q⟩
    · omega
    · have e1 := h2 c hc (by omega)
      have e2 := wmx_ge (m := m) (v := v) (a := i) 14 hc hb
      omega
  refine ⟨fun x hx => ?_, fun x hx hr => ?_, fun hr => ?_⟩
  · unfold wrp
    split
    · subst ‹x = i›; exact up
    · exact h1 x hx
  · unfold wrp
    split
    · subst ‹x = i›; exact eq (by omega)
    · exact h2 x hx hr
  · unfold wrp
    rw [if_pos rfl]
    exact eq hr
set_option maxHeartbeats 1000000 in
theorem wrw_ok {u : Nat → Nat} {r : Nat} (hu : wSt (fun a c => (m a).testBit c = true) u) : ∀ d i v, i + d = 14 → (∀ x, x < 14 → v x ≤ u x) → (∀ x, x < 14 → u x ≤ r + 1 → v x = u x) → (∀ x, x < i → u x ≤ r + 2 → v x = u x) → (∀ x, x < 14 → wrw m d i v x ≤ u x) ∧ (∀ x, x < 14 → u x ≤ r + 2 → wrw m d i v x = u x)
  | 0, i, v, hi, h1, _, h3 => ⟨h1, fun x hx hr => h3 x (by omega) hr⟩
  | d + 1, i, v, hi, h1, h2, h3 => by
    obtain ⟨a1, a2, a3⟩ := wrp_ok (show i < 14 by omega) hu h1 h2
    refine wrw_ok hu d (i + 1) (wrp m v i) (by omega) a1 a2 (fun x hx hr => ?_)
    by_cases e : x = i
    · subst e; exact a3 hr
    · unfold wrp
      rw [if_neg e]
      exact h3 x (by omega) hr
end LF

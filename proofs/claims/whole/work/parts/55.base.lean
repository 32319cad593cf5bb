/-! rows for the pure layer: numbers as nI, combinators, memories -/
theorem wx_lit (n : Nat) : (OfNat.ofNat n : Int32) = nI (OfNat.ofNat n) := rfl
theorem wx_N : wg_N = 5000 := rfl
theorem wx_bd {α : Type} (v : Int32) (s : wg_M) (κ : Int32 → wg_M → Option α) : wg_bd (some (v, s)) κ = κ v s := rfl
theorem wx_let {α : Type} (x : Int32) (κ : Int32 → Option α) : wg_let x κ = κ x := rfl
theorem wx_st {α : Type} (σ : wg_M) (k i : Nat) (v : Int32) (κ : wg_M → Option α) : wg_st σ k i v κ = κ (wg_u σ k i v) := rfl
theorem wx_ga {α : Type} {n j : Nat} {f : Nat → Int32} {κ : Int32 → Option α} (h : j < n) (hn : n < 2147483648) : wg_ga n f (nI j) κ = κ (f j) := by
  unfold wg_ga
  rw [nI_toInt (by omega), nI_clamp (by omega), if_pos (by omega)]
theorem wx_sa {α : Type} {n a j : Nat} {σ : wg_M} {v : Int32} {κ : wg_M → Option α} (h : j < n) (hn : n < 2147483648) : wg_sa n σ a (nI j) v κ = κ (wg_u σ a j v) := by
  unfold wg_sa
  rw [nI_toInt (by omega), nI_clamp (by omega), if_pos (by omega)]
theorem wx_uk (σ : wg_M) (k i : Nat) (v : Int32) : wg_u σ k i v k = upd (σ k) i v := by simp [wg_u]
theorem wx_un {σ : wg_M} {k i a : Nat} {v : Int32} (h : a ≠ k) : wg_u σ k i v a = σ a := by simp [wg_u, h]
theorem wx_le {a b : Nat} (ha : a < 2147483648) (hb : b < 2147483648) : (nI a ≤ nI b) = (a ≤ b) := propext (nI_leI ha hb)
theorem wx_lt {a b : Nat} (ha : a < 2147483648) (hb : b < 2147483648) : (nI a < nI b) = (a < b) := propext (nI_ltI ha hb)
theorem wx_eq {a b : Nat} (ha : a < 2147483648) (hb : b < 2147483648) : (nI a = nI b) = (a = b) := propext (nI_eq ha hb)
theorem wx_neg_toInt {b : Nat} (hb : b < 2147483648) : (-nI b).toInt = -(b : Int) := sb_negT hb
theorem wx_en {a b : Nat} (ha : a < 2147483648) (h0 : 0 < b) (hb : b < 2147483648) : (nI a = -nI b) = False := by
  apply propext
  refine ⟨fun h => ?_, fun h => h.elim⟩
  have := congrArg Int32.toInt h
  rw [nI_toInt ha, wx_neg_toInt hb] at this
  omega
theorem wx_ne' {a b : Nat} (ha : a < 2147483648) (h0 : 0 < b) (hb : b < 2147483648) : (-nI b = nI a) = False :=
  (propext eq_comm : (-nI b = nI a) = (nI a = -nI b)).trans (wx_en ha h0 hb)
theorem wx_nn {a b : Nat} (ha : a < 2147483648) (hb : b < 2147483648) : (-nI a = -nI b) = (a = b) := by
  apply propext
  refine ⟨fun h => ?_, fun h => by rw [h]⟩
  have := congrArg Int32.toInt h
  rw [wx_neg_toInt ha, wx_neg_toInt hb] at this
  omega
theorem wx_ltn {a b : Nat} (ha : a < 2147483648) (hb : b < 2147483648) : (nI a < -nI b) = False := by
  apply propext
  refine ⟨fun h => ?_, fun h => h.elim⟩
  have := Int32.lt_iff_toInt_lt.mp h
  rw [nI_toInt ha, wx_neg_toInt hb] at this
  omega
theorem wx_len {a b : Nat} (ha : a < 2147483648) (h0 : 0 < b) (hb : b < 2147483648) : (nI a ≤ -nI b) = False := by
  apply propext
  refine ⟨fun h => ?_, fun h => h.elim⟩
  have := Int32.le_iff_toInt_le.mp h
  rw [nI_toInt ha, wx_neg_toInt hb] at this
  omega
theorem wx_nlt {a b : Nat} (ha : a < 2147483648) (h0 : 0 < b) (hb : b < 2147483648) : (-nI b < nI a) = True := by
  apply propext
  refine ⟨fun _ => trivial, fun _ => ?_⟩
  rw [Int32.lt_iff_toInt_lt, nI_toInt ha, wx_neg_toInt hb]
  omega
theorem wx_nle {a b : Nat} (ha : a < 2147483648) (hb : b < 2147483648) : (-nI b ≤ nI a) = True := by
  apply propext
  refine ⟨fun _ => trivial, fun _ => ?_⟩
  rw [Int32.le_iff_toInt_le, nI_toInt ha, wx_neg_toInt hb]
  omega
theorem wx_sub {a b : Nat} (h : b ≤ a) : nI a - nI b = nI (a - b) := pk_sub h
theorem wx_sub1 (a : Nat) : nI (a + 1) - nI 1 = nI a := nI_pred a
theorem wx_m1 : nI 0 - nI 1 = -nI 1 := by decide
/-- a number in bounds -/
theorem wx_in {x : Int32} {b : Nat} (h1 : ¬ x < nI 0) (h2 : ¬ nI b < x) (hb : b < 2147483648) : ∃ j, j ≤ b ∧ x = nI j := by
  have h3 : 0 ≤ x.toInt := by
    rw [Int32.lt_iff_toInt_lt, nI_toInt (by omega)] at h1; omega
  have h4 : x.toInt ≤ b := by
    rw [Int32.lt_iff_toInt_lt, nI_toInt hb] at h2; omega
  refine ⟨x.toInt.toNat, by omega, ?_⟩
  apply Int32.toInt_inj.mp
  rw [nI_toInt (by omega)]
  omega
theorem wx_is (x : Int32) (n : Nat) (hn : n < 2147483648) : (x < nI 0) ∨ (¬ x < nI 0 ∧ nI n ≤ x) ∨ ∃ j, j < n ∧ x = nI j := by
  by_cases h : x < nI 0
  · exact Or.inl h
  · by_cases h2 : nI n ≤ x
    · exact Or.inr (Or.inl ⟨h, h2⟩)
    · refine Or.inr (Or.inr ?_)
      rw [Int32.lt_iff_toInt_lt, nI_toInt (by omega)] at h
      rw [Int32.le_iff_toInt_le, nI_toInt hn] at h2
      refine ⟨x.toInt.toNat, by omega, ?_⟩
      apply Int32.toInt_inj.mp
      rw [nI_toInt (by omega)]
      omega
/-- a number out of a switch's rows, or one of them -/
theorem wx_cs (x : Int32) (n : Nat) : (∃ k, k < n ∧ x = nI k) ∨ ∀ k, k < n → x ≠ nI k := by
  by_cases h : ∃ k, k < n ∧ x = nI k
  · exact Or.inl h
  · exact Or.inr (fun k hk he => h ⟨k, hk, he⟩)
theorem wx_sw_out {α : Type} {x : Int32} {cs : List (Option α)} {D : Option α} (h : ∀ k, k < cs.length → x ≠ nI k) (hl : cs.length < 2147483648) : wg_sw x 0 cs D = D := by
  unfold wg_sw
  by_cases h1 : x.toInt < 0 ∨ 0 + (cs.length : Int) ≤ x.toInt
  · rw [if_pos h1]
  · exfalso
    apply h x.toInt.toNat (by omega)
    apply Int32.toInt_inj.mp
    rw [nI_toInt (by omega)]
    omega
theorem wx_sw_in {α : Type} {k : Nat} {cs : List (Option α)} {D : Option α} (h : k < cs.length) (hl : cs.length < 2147483648) : wg_sw (nI k) 0 cs D = cs.getD k D := by
  unfold wg_sw
  rw [nI_toInt (by omega), if_neg (by omega)]
  congr 1
theorem wx_bz0 {α : Type} {κ : Option α} : wg_bz (nI 0) κ = κ := if_pos (Or.inl rfl)
theorem wx_bz1 {α : Type} {κ : Option α} : wg_bz (nI 1) κ = κ := if_pos (Or.inr rfl)
theorem wx_and31 {i : Nat} (h : i < 32) : nI i &&& nI 31 = nI i := by
  have := pk_andN (n := i) (by omega) (m := nI 31) 5 (by decide)
  rw [this, Nat.mod_eq_of_lt (by omega)]
theorem wx_ite {α : Type} {c : Prop} [Decidable c] {a : α} : (if c then a else a) = a := by
  split <;> rfl

/-! masks, counts of bits, itches -/
def wh_m (p : Nat → Bool) : Nat → Nat
  | 0 => 0
  | k + 1 => if p k = true then wh_m p k ||| 2 ^ k else wh_m p k
set_option maxHeartbeats 1000000 in
theorem wh_m_lt (p : Nat → Bool) : ∀ k, wh_m p k < 2 ^ k
  | 0 => by simp [wh_m]
  | k + 1 => by
    have ih := wh_m_lt p k
    have h2 : 2 ^ k < 2 ^ (k + 1) := by rw [Nat.pow_succ]; omega
    simp only [wh_m]
    split
    · exact Nat.or_lt_two_pow (by omega) h2
    · omega
set_option maxHeartbeats 1000000 in
theorem wh_m_bit (p : Nat → Bool) : ∀ k i, (wh_m p k).testBit i = (decide (i < k) && p i)
  | 0, i => by simp [wh_m]
  | k + 1, i => by
    simp only [wh_m]
    by_cases c : p k = true
    · rw [if_pos c, fb_bit_set, wh_m_bit p k i]
      by_cases e : i = k
      · subst e; simp [c]
      · by_cases l : i < k
        · simp [l, e, show i < k + 1 by omega]
        · simp [l, e, show ¬ i < k + 1 by omega]
    · rw [if_neg c, wh_m_bit p k i]
      by_cases e : i = k
      · subst e; simp [c]
      · by_cases l : i < k
        · simp [l, show i < k + 1 by omega]
        · simp [l, show ¬ i < k + 1 by omega]
set_option maxHeartbeats 1000000 in
theorem wh_n_cg {p q : Nat → Bool} : ∀ {k : Nat}, (∀ i, i < k → p i = q i) → wh_n p k = wh_n q k
  | 0, _ => rfl
  | k + 1, h => by
    simp only [wh_n, h k (by omega)]
    rw [wh_n_cg (fun i hi => h i (by omega))]
set_option maxHeartbeats 1000000 in
theorem wh_n_cut (p : Nat → Bool) (k : Nat) : ∀ n, k ≤ n → wh_n (fun i => decide (i < k) && p i) n = wh_n p k
  | 0, h => by rw [show k = 0 by omega]; rfl
  | n + 1, h => by
    by_cases e : k = n + 1
    · subst e
      exact wh_n_cg (fun i hi => by simp [hi])
    · simp only [wh_n]
      rw [wh_n_cut p k n (by omega)]
      simp [show ¬ n < k by omega]
def wh_pc (m : Nat) : Nat := wh_n (fun i => m.testBit i) 10
set_option maxHeartbeats 1000000 in
theorem wh_pc_m (p : Nat → Bool) {k : Nat} (hk : k ≤ 10) : wh_pc (wh_m p k) = wh_n p k := by
  unfold wh_pc
  rw [wh_n_cg (q := fun i => decide (i < k) && p i) (fun i _ => wh_m_bit p k i)]
  exact wh_n_cut p k 10 hk
def wh_bc (x : Int32) : Int32 :=
  (fun v1 : Int32 => (fun v2 : Int32 => (fun v3 : Int32 => (fun v4 : Int32 => (fun v5 : Int32 => v5 &&& 63) (v4 + wg_ush v4 16)) (v3 + wg_ush v3 8)) ((v2 + wg_ush v2 4) &&& 252645135)) ((v1 &&& 858993459) + (wg_ush v1 2 &&& 858993459))) (x - (wg_ush x 1 &&& 1431655765))
set_option maxHeartbeats 1000000 in
theorem wh_bcC (x : Int32) (σ : wg_M) : f_J6_bitCount_0f7a4 x σ = some (wh_bc x, σ) := rfl
set_option maxHeartbeats 1000000 in
theorem wh_bc_pc : ∀ m, m < 1024 → wh_bc (nI m) = nI (wh_pc m) := by decide +kernel
set_option maxHeartbeats 1000000 in
theorem wh_clr : ∀ m, m < 1024 → m ≠ 0 → wh_pc (m &&& (m - 1)) + 1 = wh_pc m ∧ m &&& (m - 1) < 1024 := by decide +kernel
set_option maxHeartbeats 1000000 in
theorem wh_pc0 : ∀ m, m < 1024 → wh_pc m = 0 → m = 0 := by decide +kernel
set_option maxHeartbeats 1000000 in
theorem wl_ones_l : ∀ c m s n τ, m < 1024 → wh_pc m = c → c < n → f_X12_onesOf_4 n (nI s) (nI m) τ = some (nI (s + c), τ) := by
  intro c
  induction c with
  | zero =>
    intro m s n τ hm hc hn
    obtain ⟨n, rfl⟩ : ∃ k, n = k + 1 := ⟨n - 1, by omega⟩
    have := wh_pc0 m hm hc
    subst this
    simp -implicitDefEqProofs (disch := omega) only [e_X12_onesOf_4, e_X12_onesOf_4__1, e_X12_onesOf_4__2, Nat.add_zero, wx_bd, wx_let, wx_st, wx_lit, wx_ga, wx_sa, pk_mul, nI_add, wx_le, wx_lt, wx_eq, wx_en, wx_ne', wx_nn, wx_ltn, wx_len, wx_nlt, wx_nle, wx_bz0, wx_bz1, if_pos, if_neg, wx_ite, Nat.reduceEqDiff, eq_self, if_true, if_false, not_true_eq_false, not_false_eq_true]
  | succ c ih =>
    intro m s n τ hm hc hn
    obtain ⟨n, rfl⟩ : ∃ k, n = k + 1 := ⟨n - 1, by omega⟩
    have h0 : m ≠ 0 := by
      intro e; subst e
      have z : wh_pc 0 = 0 := by decide
      omega
    obtain ⟨h1, h2⟩ := wh_clr m hm h0
    have e1 : nI m - nI 1 = nI (m - 1) := pk_sub (by omega)
    simp -implicitDefEqProofs (disch := omega) only [e_X12_onesOf_4, e_X12_onesOf_4__1, e_X12_onesOf_4__2, e1, fa_and, wx_bd, wx_let, wx_st, wx_lit, wx_ga, wx_sa, pk_mul, nI_add, wx_le, wx_lt, wx_eq, wx_en, wx_ne', wx_nn, wx_ltn, wx_len, wx_nlt, wx_nle, wx_bz0, wx_bz1, if_pos, if_neg, wx_ite, Nat.reduceEqDiff, eq_self, if_true, if_false, not_true_eq_false, not_false_eq_true]
    rw [ih (m &&& (m - 1)) (s + 1) n τ h2 (by omega) (by omega)]
    rw [show s + 1 + c = s + (c + 1) by omega]
set_option maxHeartbeats 1000000 in
theorem wl_ones {m : Nat} (hm : m < 1024) (τ : wg_M) : f_X12_onesOf 0 (nI m) τ = some (nI (wh_pc m), τ) := by
  have h10 : wh_pc m ≤ 10 := wh_n_le _ _
  have := wl_ones_l (wh_pc m) m 0 wg_N τ hm rfl (by rw [wx_N]; omega)
  rw [Nat.zero_add] at this
  simp -implicitDefEqProofs only [e_X12_onesOf, wx_lit]
  exact this
/-! rules of a CAUSE by their sign -/
def wpN (C R : Nat → Int32) (x : Int32) (i : Nat) : Bool := decide (C i = x ∧ ¬ nI 0 ≤ R i)
def wpP (C R : Nat → Int32) (x : Int32) (i : Nat) : Bool := decide (C i = x ∧ ¬ R i ≤ nI 0)
set_option maxHeartbeats 1000000 in
theorem wx_shl8 : ∀ n, n ≤ 8 → nI 1 <<< (nI n &&& nI 31) = nI (2 ^ n) := by decide +kernel
set_option maxHeartbeats 1000000 in
theorem wl_rfN {w k : Nat} {σ : wg_M} (hw : w < 8) (hk : σ 7 w = nI k) (hk8 : k ≤ 8) (x : Int32) : ∀ d i n, i + d = k → d < n → f_X9_rulesFor_6 n 2 (nI w) x (nI 0) (nI (wh_m (wpN (fun i => σ 8 (w * 8 + i)) (fun i => σ 9 (w * 8 + i)) x) i)) (nI i) σ = some (nI (wh_m (wpN (fun i => σ 8 (w * 8 + i)) (fun i => σ 9 (w * 8 + i)) x) k), σ) := by
  intro d
  induction d with
  | zero =>
    intro i n hi hn
    obtain ⟨n, rfl⟩ : ∃ k, n = k + 1 := ⟨n - 1, by omega⟩
    rw [show i = k by omega]
    simp -implicitDefEqProofs (disch := omega) only [e_X9_rulesFor_6, e_X9_rulesFor_6__1, e_X9_rulesFor_6__2, e_X9_rulesFor_6__3, e_X9_rulesFor_6__4, e_X9_rulesFor_6__5, hk, wx_bd, wx_let, wx_st, wx_lit, wx_ga, wx_sa, pk_mul, nI_add, wx_le, wx_lt, wx_eq, wx_en, wx_ne', wx_nn, wx_ltn, wx_len, wx_nlt, wx_nle, wx_bz0, wx_bz1, if_pos, if_neg, wx_ite, Nat.reduceEqDiff, eq_self, if_true, if_false, not_true_eq_false, not_false_eq_true]
  | succ d ih =>
    intro i n hi hn
    obtain ⟨n, rfl⟩ : ∃ k, n = k + 1 := ⟨n - 1, by omega⟩
    have q := ih (i + 1) n (by omega) (by omega)
    have es := wx_shl8 i (by omega)
    by_cases c1 : σ 8 (w * 8 + i) = x
    · by_cases c2 : nI 0 ≤ σ 9 (w * 8 + i)
      · simp only [wh_m, wpN, c1, c2, not_true_eq_false, and_false, decide_false, Bool.false_eq_true, if_false] at q ⊢
        simp -implicitDefEqProofs (disch := omega) only [e_X9_rulesFor_6, e_X9_rulesFor_6__1, e_X9_rulesFor_6__2, e_X9_rulesFor_6__3, e_X9_rulesFor_6__4, e_X9_rulesFor_6__5, e_X9_rulesFor_73, e_X9_rulesFor_73__1, hk, c1, c2, wx_bd, wx_let, wx_st, wx_lit, wx_ga, wx_sa, pk_mul, nI_add, wx_le, wx_lt, wx_eq, wx_en, wx_ne', wx_nn, wx_ltn, wx_len, wx_nlt, wx_nle, wx_bz0, wx_bz1, if_pos, if_neg, wx_ite, Nat.reduceEqDiff, eq_self, if_true, if_false, not_true_eq_false, not_false_eq_true]
        exact q
      · simp only [wh_m, wpN, c1, c2, not_false_eq_true, and_true, decide_true, if_true] at q ⊢
        simp -implicitDefEqProofs (disch := omega) only [e_X9_rulesFor_6, e_X9_rulesFor_6__1, e_X9_rulesFor_6__2, e_X9_rulesFor_6__3, e_X9_rulesFor_6__4, e_X9_rulesFor_6__5, e_X9_rulesFor_64, e_X9_rulesFor_64__1, e_X9_rulesFor_73, e_X9_rulesFor_73__1, hk, c1, c2, es, fa_or, wx_bd, wx_let, wx_st, wx_lit, wx_ga, wx_sa, pk_mul, nI_add, wx_le, wx_lt, wx_eq, wx_en, wx_ne', wx_nn, wx_ltn, wx_len, wx_nlt, wx_nle, wx_bz0, wx_bz1, if_pos, if_neg, wx_ite, Nat.reduceEqDiff, eq_self, if_true, if_false, not_true_eq_false, not_false_eq_true]
        exact q
    · simp only [wh_m, wpN, c1, false_and, decide_false, Bool.false_eq_true, if_false] at q ⊢
      simp -implicitDefEqProofs (disch := omega) only [e_X9_rulesFor_6, e_X9_rulesFor_6__1, e_X9_rulesFor_6__2, e_X9_rulesFor_6__3, e_X9_rulesFor_6__4, e_X9_rulesFor_6__5, e_X9_rulesFor_73, e_X9_rulesFor_73__1, hk, c1, wx_bd, wx_let, wx_st, wx_lit, wx_ga, wx_sa, pk_mul, nI_add, wx_le, wx_lt, wx_eq, wx_en, wx_ne', wx_nn, wx_ltn, wx_len, wx_nlt, wx_nle, wx_bz0, wx_bz1, if_pos, if_neg, wx_ite, Nat.reduceEqDiff, eq_self, if_true, if_false, not_true_eq_false, not_false_eq_true]
      exact q
set_option maxHeartbeats 1000000 in
theorem wl_rfP {w k : Nat} {σ : wg_M} (hw : w < 8) (hk : σ 7 w = nI k) (hk8 : k ≤ 8) (x : Int32) : ∀ d i n, i + d = k → d < n → f_X9_rulesFor_6 n 2 (nI w) x (nI 1) (nI (wh_m (wpP (fun i => σ 8 (w * 8 + i)) (fun i => σ 9 (w * 8 + i)) x) i)) (nI i) σ = some (nI (wh_m (wpP (fun i => σ 8 (w * 8 + i)) (fun i => σ 9 (w * 8 + i)) x) k), σ) := by
  intro d
  induction d with
  | zero =>
    intro i n hi hn
    obtain ⟨n, rfl⟩ : ∃ k, n = k + 1 := ⟨n - 1, by omega⟩
    rw [show i = k by omega]
    simp -implicitDefEqProofs (disch := omega) only [e_X9_rulesFor_6, e_X9_rulesFor_6__1, e_X9_rulesFor_6__2, e_X9_rulesFor_6__3, e_X9_rulesFor_6__4, e_X9_rulesFor_6__5, hk, wx_bd, wx_let, wx_st, wx_lit, wx_ga, wx_sa, pk_mul, nI_add, wx_le, wx_lt, wx_eq, wx_en, wx_ne', wx_nn, wx_ltn, wx_len, wx_nlt, wx_nle, wx_bz0, wx_bz1, if_pos, if_neg, wx_ite, Nat.reduceEqDiff, eq_self, if_true, if_false, not_true_eq_false, not_false_eq_true]
  | succ d ih =>
    intro i n hi hn
    obtain ⟨n, rfl⟩ : ∃ k, n = k + 1 := ⟨n - 1, by omega⟩
    have q := ih (i + 1) n (by omega) (by omega)
    have es := wx_shl8 i (by omega)
    by_cases c1 : σ 8 (w * 8 + i) = x
    · by_cases c2 : σ 9 (w * 8 + i) ≤ nI 0
      · simp only [wh_m, wpP, c1, c2, not_true_eq_false, and_false, decide_false, Bool.false_eq_true, if_false] at q ⊢
        simp -implicitDefEqProofs (disch := omega) only [e_X9_rulesFor_6, e_X9_rulesFor_6__1, e_X9_rulesFor_6__2, e_X9_rulesFor_6__3, e_X9_rulesFor_6__4, e_X9_rulesFor_6__5, e_X9_rulesFor_73, e_X9_rulesFor_73__1, hk, c1, c2, wx_bd, wx_let, wx_st, wx_lit, wx_ga, wx_sa, pk_mul, nI_add, wx_le, wx_lt, wx_eq, wx_en, wx_ne', wx_nn, wx_ltn, wx_len, wx_nlt, wx_nle, wx_bz0, wx_bz1, if_pos, if_neg, wx_ite, Nat.reduceEqDiff, eq_self, if_true, if_false, not_true_eq_false, not_false_eq_true]
        exact q
      · simp only [wh_m, wpP, c1, c2, not_false_eq_true, and_true, decide_true, if_true] at q ⊢
        simp -implicitDefEqProofs (disch := omega) only [e_X9_rulesFor_6, e_X9_rulesFor_6__1, e_X9_rulesFor_6__2, e_X9_rulesFor_6__3, e_X9_rulesFor_6__4, e_X9_rulesFor_6__5, e_X9_rulesFor_64, e_X9_rulesFor_64__1, e_X9_rulesFor_73, e_X9_rulesFor_73__1, hk, c1, c2, es, fa_or, wx_bd, wx_let, wx_st, wx_lit, wx_ga, wx_sa, pk_mul, nI_add, wx_le, wx_lt, wx_eq, wx_en, wx_ne', wx_nn, wx_ltn, wx_len, wx_nlt, wx_nle, wx_bz0, wx_bz1, if_pos, if_neg, wx_ite, Nat.reduceEqDiff, eq_self, if_true, if_false, not_true_eq_false, not_false_eq_true]
        exact q
    · simp only [wh_m, wpP, c1, false_and, decide_false, Bool.false_eq_true, if_false] at q ⊢
      simp -implicitDefEqProofs (disch := omega) only [e_X9_rulesFor_6, e_X9_rulesFor_6__1, e_X9_rulesFor_6__2, e_X9_rulesFor_6__3, e_X9_rulesFor_6__4, e_X9_rulesFor_6__5, e_X9_rulesFor_73, e_X9_rulesFor_73__1, hk, c1, wx_bd, wx_let, wx_st, wx_lit, wx_ga, wx_sa, pk_mul, nI_add, wx_le, wx_lt, wx_eq, wx_en, wx_ne', wx_nn, wx_ltn, wx_len, wx_nlt, wx_nle, wx_bz0, wx_bz1, if_pos, if_neg, wx_ite, Nat.reduceEqDiff, eq_self, if_true, if_false, not_true_eq_false, not_false_eq_true]
      exact q
set_option maxHeartbeats 1000000 in
theorem wl_rN {w k : Nat} {σ : wg_M} (hw : w < 8) (hk : σ 7 w = nI k) (hk8 : k ≤ 8) (x : Int32) : f_X9_rulesFor 2 (nI w) x (nI 0) σ = some (nI (wh_m (wpN (fun i => σ 8 (w * 8 + i)) (fun i => σ 9 (w * 8 + i)) x) k), σ) :=
  wl_rfN hw hk hk8 x k 0 wg_N (by omega) (by rw [wx_N]; omega)
set_option maxHeartbeats 1000000 in
theorem wl_rP {w k : Nat} {σ : wg_M} (hw : w < 8) (hk : σ 7 w = nI k) (hk8 : k ≤ 8) (x : Int32) : f_X9_rulesFor 2 (nI w) x (nI 1) σ = some (nI (wh_m (wpP (fun i => σ 8 (w * 8 + i)) (fun i => σ 9 (w * 8 + i)) x) k), σ) :=
  wl_rfP hw hk hk8 x k 0 wg_N (by omega) (by rw [wx_N]; omega)
set_option maxHeartbeats 1000000 in
theorem wh_m8 (p : Nat → Bool) {k : Nat} (hk : k ≤ 8) : wh_m p k < 256 := by
  have h1 := wh_m_lt p k
  have h2 : 2 ^ k ≤ 2 ^ 8 := Nat.pow_le_pow_right (by omega) hk
  omega
/-! couples that itch -/
def wIt (C R : Nat → Int32) (i j : Nat) : Bool := decide (C i = C j ∧ ((¬ nI 0 ≤ R i ∧ ¬ R j ≤ nI 0) ∨ (¬ R i ≤ nI 0 ∧ ¬ nI 0 ≤ R j)))
def wPr (C R : Nat → Int32) (k : Nat) : Nat := fb_sm (fun i => wh_n (wIt C R i) i) k
def wit (C R : Nat → Int32) (k : Nat) : Int32 := if 9 * wPr C R k ≤ 99 then nI (9 * wPr C R k) else nI 99
set_option maxHeartbeats 1000000 in
theorem wx_nle0 (x : Int32) : (¬ nI 0 ≤ x) ↔ x.toInt < 0 := by
  rw [Int32.le_iff_toInt_le, nI_toInt (by omega)]; omega
set_option maxHeartbeats 1000000 in
theorem wx_nle0' (x : Int32) : (¬ x ≤ nI 0) ↔ 0 < x.toInt := by
  rw [Int32.le_iff_toInt_le, nI_toInt (by omega)]; omega
set_option maxHeartbeats 1000000 in
theorem wPr_eq {C R : Nat → Int32} : ∀ {k : Nat}, (∀ i, i < k → ∃ c, c < 8 ∧ C i = nI c) → fb_sm (fun c => wh_n (wpN C R (nI c)) k * wh_n (wpP C R (nI c)) k) 8 = wPr C R k
  | 0, _ => by
    have : ∀ n, fb_sm (fun c => wh_n (wpN C R (nI c)) 0 * wh_n (wpP C R (nI c)) 0) n = 0 := by
      intro n
      induction n with
      | zero => rfl
      | succ n ih => rw [fb_sm_succ, ih]; rfl
    rw [this]; rfl
  | k + 1, h => by
    have ih := wPr_eq (C := C) (R := R) (k := k) (fun i hi => h i (by omega))
    obtain ⟨c0, hc, e0⟩ := h k (by omega)
    have hP : wPr C R (k + 1) = wPr C R k + wh_n (wIt C R k) k := fb_sm_succ _ _
    rw [hP, ← ih]
    have eN : ∀ c, c < 8 → wh_n (wpN C R (nI c)) (k + 1) = wh_n (wpN C R (nI c)) k + (if c = c0 ∧ (R k).toInt < 0 then 1 else 0) := by
      intro c hc2
      simp only [wh_n, wpN, e0, wx_eq (show c0 < 2147483648 by omega) (show c < 2147483648 by omega), wx_nle0, decide_eq_true_eq]
      congr 1
      by_cases q : c = c0
      · subst q; simp
      · simp [q, show ¬ c0 = c by omega]
    have eP : ∀ c, c < 8 → wh_n (wpP C R (nI c)) (k + 1) = wh_n (wpP C R (nI c)) k + (if c = c0 ∧ 0 < (R k).toInt then 1 else 0) := by
      intro c hc2
      simp only [wh_n, wpP, e0, wx_eq (show c0 < 2147483648 by omega) (show c < 2147483648 by omega), wx_nle0', decide_eq_true_eq]
      congr 1
      by_cases q : c = c0
      · subst q; simp
      · simp [q, show ¬ c0 = c by omega]
    rcases (show (R k).toInt < 0 ∨ (R k).toInt = 0 ∨ 0 < (R k).toInt by omega) with z | z | z
    · have ei : wh_n (wIt C R k) k = wh_n (wpP C R (nI c0)) k := by
        apply wh_n_cg
        intro i hi
        simp only [wIt, wpP, e0, wx_nle0, wx_nle0', eq_comm (a := nI c0)]
        simp [z, show ¬ 0 < (R k).toInt by omega]
      rw [ei]
      have u := fb_sm_upd (fun c => wh_n (wpN C R (nI c)) k * wh_n (wpP C R (nI c)) k) ((wh_n (wpN C R (nI c0)) k + 1) * wh_n (wpP C R (nI c0)) k) hc
      have v : fb_sm (fun c => wh_n (wpN C R (nI c)) (k + 1) * wh_n (wpP C R (nI c)) (k + 1)) 8 = fb_sm (fun c => if c = c0 then (wh_n (wpN C R (nI c0)) k + 1) * wh_n (wpP C R (nI c0)) k else wh_n (wpN C R (nI c)) k * wh_n (wpP C R (nI c)) k) 8 := by
        apply fb_sm_cong
        intro c hc2
        simp only [eN c hc2, eP c hc2]
        by_cases q : c = c0
        · subst q; simp [z, show ¬ 0 < (R k).toInt by omega]
        · simp [q]
      rw [v]
      rw [Nat.add_mul, Nat.one_mul] at u
      simp only [Nat.add_mul, Nat.one_mul]
      omega
    · have ei : wh_n (wIt C R k) k = 0 := by
        have : wh_n (wIt C R k) k = wh_n (fun _ => false) k := by
          apply wh_n_cg
          intro i hi
          simp only [wIt, wx_nle0, wx_nle0']
          simp [z]
        rw [this]
        have : ∀ n, wh_n (fun _ => false) n = 0 := by
          intro n
          induction n with
          | zero => rfl
          | succ n ih => simp [wh_n, ih]
        exact this k
      rw [ei, Nat.add_zero]
      apply fb_sm_cong
      intro c hc2
      rw [eN c hc2, eP c hc2]
      simp [z]
    · have ei : wh_n (wIt C R k) k = wh_n (wpN C R (nI c0)) k := by
        apply wh_n_cg
        intro i hi
        simp only [wIt, wpN, e0, wx_nle0, wx_nle0', eq_comm (a := nI c0)]
        simp [z, show ¬ (R k).toInt < 0 by omega]
      rw [ei]
      have u := fb_sm_upd (fun c => wh_n (wpN C R (nI c)) k * wh_n (wpP C R (nI c)) k) (wh_n (wpN C R (nI c0)) k * (wh_n (wpP C R (nI c0)) k + 1)) hc
      have v : fb_sm (fun c => wh_n (wpN C R (nI c)) (k + 1) * wh_n (wpP C R (nI c)) (k + 1)) 8 = fb_sm (fun c => if c = c0 then wh_n (wpN C R (nI c0)) k * (wh_n (wpP C R (nI c0)) k + 1) else wh_n (wpN C R (nI c)) k * wh_n (wpP C R (nI c)) k) 8 := by
        apply fb_sm_cong
        intro c hc2
        simp only [eN c hc2, eP c hc2]
        by_cases q : c = c0
        · subst q; simp [z, show ¬ (R k).toInt < 0 by omega]
        · simp [q]
      rw [v]
      rw [Nat.mul_add, Nat.mul_one] at u
      simp only [Nat.mul_add, Nat.mul_one]
      omega
set_option maxHeartbeats 1000000 in
theorem wPr_le {C R : Nat → Int32} {k : Nat} (hk : k ≤ 8) : wPr C R k ≤ 64 := by
  have h1 : ∀ i, i < k → wh_n (wIt C R i) i ≤ 8 := fun i hi => by
    have := wh_n_le (wIt C R i) i
    omega
  have h2 := fb_sm_le (g := fun _ => 8) h1
  rw [fb_sm_const] at h2
  unfold wPr
  omega
set_option maxHeartbeats 1000000 in
theorem wPr_cg {C R C' R' : Nat → Int32} {k : Nat} (h1 : ∀ i, i < k → C i = C' i) (h2 : ∀ i, i < k → R i = R' i) : wPr C R k = wPr C' R' k := by
  apply fb_sm_cong
  intro i hi
  apply wh_n_cg
  intro j hj
  simp only [wIt, h1 i hi, h1 j (by omega), h2 i hi, h2 j (by omega)]
set_option maxHeartbeats 1000000 in
theorem wit_cg {C R C' R' : Nat → Int32} {k : Nat} (h1 : ∀ i, i < k → C i = C' i) (h2 : ∀ i, i < k → R i = R' i) : wit C R k = wit C' R' k := by
  unfold wit
  rw [wPr_cg h1 h2]
set_option maxHeartbeats 1000000 in
theorem wl_itchC_l {w k : Nat} {σ : wg_M} (hw : w < 8) (hk : σ 7 w = nI k) (hk8 : k ≤ 8) : ∀ d i n, i + d = 8 → d < n → f_X9_itchAnew_4 n 2 (nI w) (nI (fb_sm (fun c => wh_n (wpN (fun i => σ 8 (w * 8 + i)) (fun i => σ 9 (w * 8 + i)) (nI c)) k * wh_n (wpP (fun i => σ 8 (w * 8 + i)) (fun i => σ 9 (w * 8 + i)) (nI c)) k) i)) (nI i) σ = some (nI 0, wg_u σ 5 w (if 9 * fb_sm (fun c => wh_n (wpN (fun i => σ 8 (w * 8 + i)) (fun i => σ 9 (w * 8 + i)) (nI c)) k * wh_n (wpP (fun i => σ 8 (w * 8 + i)) (fun i => σ 9 (w * 8 + i)) (nI c)) k) 8 ≤ 99 then nI (9 * fb_sm (fun c => wh_n (wpN (fun i => σ 8 (w * 8 + i)) (fun i => σ 9 (w * 8 + i)) (nI c)) k * wh_n (wpP (fun i => σ 8 (w * 8 + i)) (fun i => σ 9 (w * 8 + i)) (nI c)) k) 8) else nI 99)) := by
  have hb : ∀ n, fb_sm (fun c => wh_n (wpN (fun i => σ 8 (w * 8 + i)) (fun i => σ 9 (w * 8 + i)) (nI c)) k * wh_n (wpP (fun i => σ 8 (w * 8 + i)) (fun i => σ 9 (w * 8 + i)) (nI c)) k) n ≤ n * 64 := by
    intro n
    have h2 := fb_sm_le (n := n) (f := fun c => wh_n (wpN (fun i => σ 8 (w * 8 + i)) (fun i => σ 9 (w * 8 + i)) (nI c)) k * wh_n (wpP (fun i => σ 8 (w * 8 + i)) (fun i => σ 9 (w * 8 + i)) (nI c)) k) (g := fun _ => 64) (fun c _ => Nat.le_trans (Nat.mul_le_mul (wh_n_le _ _) (wh_n_le _ _)) (Nat.mul_le_mul hk8 hk8))
    rw [fb_sm_const] at h2
    exact h2
  intro d
  induction d with
  | zero =>
    intro i n hi hn
    obtain ⟨n, rfl⟩ : ∃ k, n = k + 1 := ⟨n - 1, by omega⟩
    rw [show i = 8 by omega]
    have h8 := hb 8
    generalize fb_sm (fun c => wh_n (wpN (fun i => σ 8 (w * 8 + i)) (fun i => σ 9 (w * 8 + i)) (nI c)) k * wh_n (wpP (fun i => σ 8 (w * 8 + i)) (fun i => σ 9 (w * 8 + i)) (nI c)) k) 8 = S at h8 ⊢
    by_cases c : 9 * S ≤ 99
    · simp -implicitDefEqProofs (disch := omega) only [e_X9_itchAnew_4, e_X9_itchAnew_4__1, e_X9_itchAnew_4__2, e_X9_itchAnew_4__3, e_X9_itchAnew_4__4, e_X9_itchAnew_4__5, e_X9_itchAnew_4__6, e_X9_itchAnew_4__7, e_X9_itchAnew_4__8, wl_min, Nat.mul_comm S 9, wx_bd, wx_let, wx_st, wx_lit, wx_ga, wx_sa, pk_mul, nI_add, wx_le, wx_lt, wx_eq, wx_en, wx_ne', wx_nn, wx_ltn, wx_len, wx_nlt, wx_nle, wx_bz0, wx_bz1, if_pos, if_neg, wx_ite, Nat.reduceEqDiff, eq_self, if_true, if_false, not_true_eq_false, not_false_eq_true]
    · simp -implicitDefEqProofs (disch := omega) only [e_X9_itchAnew_4, e_X9_itchAnew_4__1, e_X9_itchAnew_4__2, e_X9_itchAnew_4__3, e_X9_itchAnew_4__4, e_X9_itchAnew_4__5, e_X9_itchAnew_4__6, e_X9_itchAnew_4__7, e_X9_itchAnew_4__8, wl_min, Nat.mul_comm S 9, wx_bd, wx_let, wx_st, wx_lit, wx_ga, wx_sa, pk_mul, nI_add, wx_le, wx_lt, wx_eq, wx_en, wx_ne', wx_nn, wx_ltn, wx_len, wx_nlt, wx_nle, wx_bz0, wx_bz1, if_pos, if_neg, wx_ite, Nat.reduceEqDiff, eq_self, if_true, if_false, not_true_eq_false, not_false_eq_true]
  | succ d ih =>
    intro i n hi hn
    obtain ⟨n, rfl⟩ : ∃ k, n = k + 1 := ⟨n - 1, by omega⟩
    have q := ih (i + 1) n (by omega) (by omega)
    rw [← q, fb_sm_succ]
    have r1 := wl_rN hw hk hk8 (nI i)
    have r2 := wl_rP hw hk hk8 (nI i)
    have b1 := wh_bc_pc _ (show wh_m (wpN (fun i => σ 8 (w * 8 + i)) (fun i => σ 9 (w * 8 + i)) (nI i)) k < 1024 by have := wh_m8 (wpN (fun i => σ 8 (w * 8 + i)) (fun i => σ 9 (w * 8 + i)) (nI i)) hk8; omega)
    have b2 := wh_bc_pc _ (show wh_m (wpP (fun i => σ 8 (w * 8 + i)) (fun i => σ 9 (w * 8 + i)) (nI i)) k < 1024 by have := wh_m8 (wpP (fun i => σ 8 (w * 8 + i)) (fun i => σ 9 (w * 8 + i)) (nI i)) hk8; omega)
    rw [wh_pc_m _ (by omega)] at b1 b2
    simp -implicitDefEqProofs (disch := omega) only [e_X9_itchAnew_4, e_X9_itchAnew_4__1, e_X9_itchAnew_4__2, e_X9_itchAnew_4__3, e_X9_itchAnew_4__4, e_X9_itchAnew_4__5, e_X9_itchAnew_4__6, e_X9_itchAnew_4__7, e_X9_itchAnew_4__8, r1, r2, wh_bcC, b1, b2, wx_bd, wx_let, wx_st, wx_lit, wx_ga, wx_sa, pk_mul, nI_add, wx_le, wx_lt, wx_eq, wx_en, wx_ne', wx_nn, wx_ltn, wx_len, wx_nlt, wx_nle, wx_bz0, wx_bz1, if_pos, if_neg, wx_ite, Nat.reduceEqDiff, eq_self, if_true, if_false, not_true_eq_false, not_false_eq_true]
set_option maxHeartbeats 1000000 in
theorem wl_itchC {w k : Nat} {σ : wg_M} (hw : w < 8) (hk : σ 7 w = nI k) (hk8 : k ≤ 8) (hc : ∀ i, i < k → ∃ c, c < 8 ∧ σ 8 (w * 8 + i) = nI c) : f_X9_itchAnew 2 (nI w) σ = some (nI 0, wg_u σ 5 w (wit (fun i => σ 8 (w * 8 + i)) (fun i => σ 9 (w * 8 + i)) k)) := by
  have q := wl_itchC_l hw hk hk8 8 0 wg_N (by omega) (by rw [wx_N]; omega)
  rw [wPr_eq hc] at q
  simp -implicitDefEqProofs only [e_X9_itchAnew, wx_lit]
  exact q
set_option maxHeartbeats 1000000 in
theorem wl_itching {w i j : Nat} (hw : w < 8) (hi : i < 8) (hj : j < 8) (τ : wg_M) : f_X12_isItching 0 (nI w) (nI i) (nI j) τ = some (if wIt (fun i => τ 1 (75 + 24 * w + 3 * i)) (fun i => τ 1 (75 + 24 * w + 3 * i + 1)) i j = true then nI 1 else nI 0, τ) := by
  have l0 : (nI 0 < τ 1 (75 + 24 * w + 3 * j + 1)) = ¬ τ 1 (75 + 24 * w + 3 * j + 1) ≤ nI 0 := by
    apply propext
    rw [wx_nle0', Int32.lt_iff_toInt_lt, nI_toInt (by omega)]; exact Iff.rfl
  by_cases c1 : τ 1 (75 + 24 * w + 3 * i) = τ 1 (75 + 24 * w + 3 * j)
  · by_cases c2 : nI 0 ≤ τ 1 (75 + 24 * w + 3 * i + 1)
    · by_cases c3 : τ 1 (75 + 24 * w + 3 * i + 1) ≤ nI 0
      · simp -implicitDefEqProofs (disch := omega) only [e_X12_isItching, e_X12_isItching__1, e_X12_isItching__2, e_X12_isItching__3, e_X12_isItching__4, e_X12_isItching__5, e_X12_isItching__6, e_X12_isItching_57, e_X12_isItching_57__1, e_X12_isItching_57__2, e_X12_isItching_81, e_X12_ruleAt, wIt, c1, c2, c3, and_false, false_and, or_self, decide_false, Bool.false_eq_true, wx_bd, wx_let, wx_st, wx_lit, wx_ga, wx_sa, pk_mul, nI_add, wx_le, wx_lt, wx_eq, wx_en, wx_ne', wx_nn, wx_ltn, wx_len, wx_nlt, wx_nle, wx_bz0, wx_bz1, if_pos, if_neg, wx_ite, Nat.reduceEqDiff, eq_self, if_true, if_false, not_true_eq_false, not_false_eq_true]
      · by_cases c4 : nI 0 ≤ τ 1 (75 + 24 * w + 3 * j + 1)
        · simp -implicitDefEqProofs (disch := omega) only [e_X12_isItching, e_X12_isItching__1, e_X12_isItching__2, e_X12_isItching__3, e_X12_isItching__4, e_X12_isItching__5, e_X12_isItching__6, e_X12_isItching_57, e_X12_isItching_57__1, e_X12_isItching_57__2, e_X12_isItching_81, e_X12_ruleAt, wIt, c1, c2, c3, c4, and_false, false_and, or_self, decide_false, Bool.false_eq_true, wx_bd, wx_let, wx_st, wx_lit, wx_ga, wx_sa, pk_mul, nI_add, wx_le, wx_lt, wx_eq, wx_en, wx_ne', wx_nn, wx_ltn, wx_len, wx_nlt, wx_nle, wx_bz0, wx_bz1, if_pos, if_neg, wx_ite, Nat.reduceEqDiff, eq_self, if_true, if_false, not_true_eq_false, not_false_eq_true]
        · simp -implicitDefEqProofs (disch := omega) only [e_X12_isItching, e_X12_isItching__1, e_X12_isItching__2, e_X12_isItching__3, e_X12_isItching__4, e_X12_isItching__5, e_X12_isItching__6, e_X12_isItching_57, e_X12_isItching_57__1, e_X12_isItching_57__2, e_X12_isItching_81, e_X12_ruleAt, wIt, c1, c2, c3, c4, and_false, false_and, and_true, false_or, decide_true, wx_bd, wx_let, wx_st, wx_lit, wx_ga, wx_sa, pk_mul, nI_add, wx_le, wx_lt, wx_eq, wx_en, wx_ne', wx_nn, wx_ltn, wx_len, wx_nlt, wx_nle, wx_bz0, wx_bz1, if_pos, if_neg, wx_ite, Nat.reduceEqDiff, eq_self, if_true, if_false, not_true_eq_false, not_false_eq_true]
    · have c3 : τ 1 (75 + 24 * w + 3 * i + 1) ≤ nI 0 := by
        rw [wx_nle0] at c2
        rw [Int32.le_iff_toInt_le, nI_toInt (by omega)]; omega
      by_cases c4 : τ 1 (75 + 24 * w + 3 * j + 1) ≤ nI 0
      · simp -implicitDefEqProofs (disch := omega) only [e_X12_isItching, e_X12_isItching__1, e_X12_isItching__2, e_X12_isItching__3, e_X12_isItching__4, e_X12_isItching__5, e_X12_isItching__6, e_X12_isItching_57, e_X12_isItching_57__1, e_X12_isItching_57__2, e_X12_isItching_81, e_X12_ruleAt, wIt, c1, c2, c3, c4, l0, and_false, false_and, or_self, decide_false, Bool.false_eq_true, wx_bd, wx_let, wx_st, wx_lit, wx_ga, wx_sa, pk_mul, nI_add, wx_le, wx_lt, wx_eq, wx_en, wx_ne', wx_nn, wx_ltn, wx_len, wx_nlt, wx_nle, wx_bz0, wx_bz1, if_pos, if_neg, wx_ite, Nat.reduceEqDiff, eq_self, if_true, if_false, not_true_eq_false, not_false_eq_true]
      · simp -implicitDefEqProofs (disch := omega) only [e_X12_isItching, e_X12_isItching__1, e_X12_isItching__2, e_X12_isItching__3, e_X12_isItching__4, e_X12_isItching__5, e_X12_isItching__6, e_X12_isItching_57, e_X12_isItching_57__1, e_X12_isItching_57__2, e_X12_isItching_81, e_X12_ruleAt, wIt, c1, c2, c3, c4, l0, and_false, false_and, and_true, true_or, decide_true, wx_bd, wx_let, wx_st, wx_lit, wx_ga, wx_sa, pk_mul, nI_add, wx_le, wx_lt, wx_eq, wx_en, wx_ne', wx_nn, wx_ltn, wx_len, wx_nlt, wx_nle, wx_bz0, wx_bz1, if_pos, if_neg, wx_ite, Nat.reduceEqDiff, eq_self, if_true, if_false, not_true_eq_false, not_false_eq_true]
  · simp -implicitDefEqProofs (disch := omega) only [e_X12_isItching, e_X12_isItching__1, e_X12_isItching__2, e_X12_isItching__3, e_X12_isItching__4, e_X12_isItching__5, e_X12_isItching__6, e_X12_isItching_57, e_X12_isItching_57__1, e_X12_isItching_57__2, e_X12_isItching_81, e_X12_ruleAt, wIt, c1, false_and, decide_false, Bool.false_eq_true, wx_bd, wx_let, wx_st, wx_lit, wx_ga, wx_sa, pk_mul, nI_add, wx_le, wx_lt, wx_eq, wx_en, wx_ne', wx_nn, wx_ltn, wx_len, wx_nlt, wx_nle, wx_bz0, wx_bz1, if_pos, if_neg, wx_ite, Nat.reduceEqDiff, eq_self, if_true, if_false, not_true_eq_false, not_false_eq_true]
set_option maxHeartbeats 1000000 in
theorem wl_itchM_i {w i : Nat} (hw : w < 8) (hi : i < 8) (τ : wg_M) (K : Nat → Int32 → Int32 → Int32 → wg_M → Option (Int32 × wg_M)) (s : Nat) : ∀ d j n, j + d = i → d < n → f_X12_itches_20 K n 0 (nI w) (nI (s + wh_n (wIt (fun i => τ 1 (75 + 24 * w + 3 * i)) (fun i => τ 1 (75 + 24 * w + 3 * i + 1)) i) j)) (nI i) (nI j) τ = K 0 (nI w) (nI (s + wh_n (wIt (fun i => τ 1 (75 + 24 * w + 3 * i)) (fun i => τ 1 (75 + 24 * w + 3 * i + 1)) i) i)) (nI (i + 1)) τ := by
  intro d
  induction d with
  | zero =>
    intro j n hj hn
    obtain ⟨n, rfl⟩ : ∃ k, n = k + 1 := ⟨n - 1, by omega⟩
    rw [show j = i by omega]
    simp -implicitDefEqProofs (disch := omega) only [e_X12_itches_20, e_X12_itches_20__1, e_X12_itches_20__2, e_X12_itches_20__3, wx_bd, wx_let, wx_st, wx_lit, wx_ga, wx_sa, pk_mul, nI_add, wx_le, wx_lt, wx_eq, wx_en, wx_ne', wx_nn, wx_ltn, wx_len, wx_nlt, wx_nle, wx_bz0, wx_bz1, if_pos, if_neg, wx_ite, Nat.reduceEqDiff, eq_self, if_true, if_false, not_true_eq_false, not_false_eq_true]
  | succ d ih =>
    intro j n hj hn
    obtain ⟨n, rfl⟩ : ∃ k, n = k + 1 := ⟨n - 1, by omega⟩
    have q := ih (j + 1) n (by omega) (by omega)
    have r := wl_itching hw hi (show j < 8 by omega) τ
    rw [← q]
    generalize wIt (fun i => τ 1 (75 + 24 * w + 3 * i)) (fun i => τ 1 (75 + 24 * w + 3 * i + 1)) i = P at r ⊢
    by_cases c : P j = true
    · rw [if_pos c] at r
      have hs : wh_n P (j + 1) = wh_n P j + 1 := by simp only [wh_n, c, if_true]
      rw [hs]
      simp -implicitDefEqProofs (disch := omega) only [e_X12_itches_20, e_X12_itches_20__1, e_X12_itches_20__2, e_X12_itches_20__3, e_X12_itches_41, e_X12_itches_41__1, r, wx_bd, wx_let, wx_st, wx_lit, wx_ga, wx_sa, pk_mul, nI_add, wx_le, wx_lt, wx_eq, wx_en, wx_ne', wx_nn, wx_ltn, wx_len, wx_nlt, wx_nle, wx_bz0, wx_bz1, if_pos, if_neg, wx_ite, Nat.reduceEqDiff, eq_self, if_true, if_false, not_true_eq_false, not_false_eq_true]
      rw [Nat.add_assoc]
    · rw [if_neg c] at r
      have hs : wh_n P (j + 1) = wh_n P j := by simp [wh_n, c]
      rw [hs]
      simp -implicitDefEqProofs (disch := omega) only [e_X12_itches_20, e_X12_itches_20__1, e_X12_itches_20__2, e_X12_itches_20__3, e_X12_itches_41, e_X12_itches_41__1, r, wx_bd, wx_let, wx_st, wx_lit, wx_ga, wx_sa, pk_mul, nI_add, wx_le, wx_lt, wx_eq, wx_en, wx_ne', wx_nn, wx_ltn, wx_len, wx_nlt, wx_nle, wx_bz0, wx_bz1, if_pos, if_neg, wx_ite, Nat.reduceEqDiff, eq_self, if_true, if_false, not_true_eq_false, not_false_eq_true]
set_option maxHeartbeats 1000000 in
theorem wl_itchM_l {w k : Nat} {τ : wg_M} (hw : w < 8) (hk : τ 1 (67 + w) = nI k) (hk8 : k ≤ 8) : ∀ d i n, i + d = k → d < n → f_X12_itches_4 n 0 (nI w) (nI (wPr (fun i => τ 1 (75 + 24 * w + 3 * i)) (fun i => τ 1 (75 + 24 * w + 3 * i + 1)) i)) (nI i) τ = some (nI 0, wg_u τ 1 (51 + w) (wit (fun i => τ 1 (75 + 24 * w + 3 * i)) (fun i => τ 1 (75 + 24 * w + 3 * i + 1)) k)) := by
  intro d
  induction d with
  | zero =>
    intro i n hi hn
    obtain ⟨n, rfl⟩ : ∃ k, n = k + 1 := ⟨n - 1, by omega⟩
    rw [show i = k by omega]
    have h8 := wPr_le (C := fun i => τ 1 (75 + 24 * w + 3 * i)) (R := fun i => τ 1 (75 + 24 * w + 3 * i + 1)) hk8
    unfold wit
    generalize wPr (fun i => τ 1 (75 + 24 * w + 3 * i)) (fun i => τ 1 (75 + 24 * w + 3 * i + 1)) k = S at h8 ⊢
    by_cases c : 9 * S ≤ 99
    · simp -implicitDefEqProofs (disch := omega) only [e_X12_itches_4, e_X12_itches_4__1, e_X12_itches_4__2, e_X12_itches_4__3, hk, wl_lesser, wx_bd, wx_let, wx_st, wx_lit, wx_ga, wx_sa, pk_mul, nI_add, wx_le, wx_lt, wx_eq, wx_en, wx_ne', wx_nn, wx_ltn, wx_len, wx_nlt, wx_nle, wx_bz0, wx_bz1, if_pos, if_neg, wx_ite, Nat.reduceEqDiff, eq_self, if_true, if_false, not_true_eq_false, not_false_eq_true]
    · simp -implicitDefEqProofs (disch := omega) only [e_X12_itches_4, e_X12_itches_4__1, e_X12_itches_4__2, e_X12_itches_4__3, hk, wl_lesser, wx_bd, wx_let, wx_st, wx_lit, wx_ga, wx_sa, pk_mul, nI_add, wx_le, wx_lt, wx_eq, wx_en, wx_ne', wx_nn, wx_ltn, wx_len, wx_nlt, wx_nle, wx_bz0, wx_bz1, if_pos, if_neg, wx_ite, Nat.reduceEqDiff, eq_self, if_true, if_false, not_true_eq_false, not_false_eq_true]
  | succ d ih =>
    intro i n hi hn
    obtain ⟨n, rfl⟩ : ∃ k, n = k + 1 := ⟨n - 1, by omega⟩
    have q := ih (i + 1) n (by omega) (by omega)
    have r := wl_itchM_i hw (show i < 8 by omega) τ (f_X12_itches_4 n) (wPr (fun i => τ 1 (75 + 24 * w + 3 * i)) (fun i => τ 1 (75 + 24 * w + 3 * i + 1)) i) i 0 wg_N (by omega) (by rw [wx_N]; omega)
    rw [← q]
    simp -implicitDefEqProofs (disch := omega) only [e_X12_itches_4, e_X12_itches_4__1, e_X12_itches_4__2, e_X12_itches_4__3, hk, wx_bd, wx_let, wx_st, wx_lit, wx_ga, wx_sa, pk_mul, nI_add, wx_le, wx_lt, wx_eq, wx_en, wx_ne', wx_nn, wx_ltn, wx_len, wx_nlt, wx_nle, wx_bz0, wx_bz1, if_pos, if_neg, wx_ite, Nat.reduceEqDiff, eq_self, if_true, if_false, not_true_eq_false, not_false_eq_true]
    exact r
set_option maxHeartbeats 1000000 in
theorem wl_itchM {w k : Nat} {τ : wg_M} (hw : w < 8) (hk : τ 1 (67 + w) = nI k) (hk8 : k ≤ 8) : f_X12_itches 0 (nI w) τ = some (nI 0, wg_u τ 1 (51 + w) (wit (fun i => τ 1 (75 + 24 * w + 3 * i)) (fun i => τ 1 (75 + 24 * w + 3 * i + 1)) k)) := by
  have q := wl_itchM_l hw hk hk8 k 0 wg_N (by omega) (by rw [wx_N]; omega)
  simp -implicitDefEqProofs only [e_X12_itches, wx_lit]
  exact q

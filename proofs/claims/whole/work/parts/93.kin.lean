/-! KIN -/
set_option maxHeartbeats 1000000 in
theorem wx_bit8 : ∀ S, S < 256 → ∀ a, a < 8 → (nI S >>> (nI a &&& nI 31)) &&& nI 1 = if S.testBit a = true then nI 1 else nI 0 := by decide +kernel
set_option maxHeartbeats 1000000 in
theorem wk_add : ∀ S, S < 256 → ∀ c, c < 8 → S.testBit c = false → wh_pc (S ||| 2 ^ c) = wh_pc S + 1 ∧ S ||| 2 ^ c < 256 := by decide +kernel
set_option maxHeartbeats 1000000 in
theorem wk_full : ∀ S, S < 256 → wh_pc S = 8 → ∀ c, c < 8 → S.testBit c = true := by decide +kernel
set_option maxHeartbeats 1000000 in
theorem wk_or (S c a : Nat) : (S ||| 2 ^ c).testBit a = (S.testBit a || decide (c = a)) := by
  rw [Nat.testBit_or, Nat.testBit_two_pow]
def wEn : Option Nat → Int32
  | none => -nI 1
  | some a => nI a
def wAf (τ : wg_M) (w : Nat) : Option Nat := if τ 21 w = nI 0 then none else some ((τ 21 w - nI 1).toInt.toNat)
set_option maxHeartbeats 1000000 in
theorem wEn_ne {a : Nat} (h : a < 8) : ¬ nI a = -nI 1 := by
  intro e
  have := congrArg Int32.toInt e
  rw [nI_toInt (by omega), wx_neg_toInt (by omega)] at this
  omega
section KI
variable {σ τ : wg_M}
set_option maxHeartbeats 1000000 in
theorem wl_mA {n i0 : Nat} {w : Nat} (hn : n ≤ 16) (e4 : σ 44 4 = nI n) (h0 : i0 < n) (h1 : σ 47 i0 = nI w) (h2 : ∀ k, k < i0 → σ 47 k ≠ nI w) : ∀ d i f, i + d = i0 → d < f → f_X7_madeAfter_10 f (nI w) 44 (nI i) σ = some (σ 48 i0, σ) := by
  intro d
  induction d with
  | zero =>
    intro i f hi hf
    obtain ⟨f, rfl⟩ : ∃ k, f = k + 1 := ⟨f - 1, by omega⟩
    rw [show i = i0 by omega]
    simp -implicitDefEqProofs (disch := omega) only [e_X7_madeAfter_10, e_X7_madeAfter_10__1, e_X7_madeAfter_10__2, e_X7_madeAfter_10__3, e4, h1, sc_r44_2, sc_r44_3, sc_n47, sc_n48, wx_bd, wx_let, wx_st, wx_lit, wx_ga, wx_sa, pk_mul, nI_add, wx_le, wx_lt, wx_eq, wx_en, wx_ne', wx_nn, wx_ltn, wx_len, wx_nlt, wx_nle, wx_bz0, wx_bz1, if_pos, if_neg, wx_ite, Nat.reduceEqDiff, eq_self, if_true, if_false, not_true_eq_false, not_false_eq_true]
  | succ d ih =>
    intro i f hi hf
    obtain ⟨f, rfl⟩ : ∃ k, f = k + 1 := ⟨f - 1, by omega⟩
    have q := ih (i + 1) f (by omega) (by omega)
    have c := h2 i (by omega)
    simp -implicitDefEqProofs (disch := omega) only [e_X7_madeAfter_10, e_X7_madeAfter_10__1, e_X7_madeAfter_10__2, e_X7_madeAfter_10__3, e4, c, sc_r44_2, sc_r44_3, sc_n47, sc_n48, wx_bd, wx_let, wx_st, wx_lit, wx_ga, wx_sa, pk_mul, nI_add, wx_le, wx_lt, wx_eq, wx_en, wx_ne', wx_nn, wx_ltn, wx_len, wx_nlt, wx_nle, wx_bz0, wx_bz1, if_pos, if_neg, wx_ite, Nat.reduceEqDiff, eq_self, if_true, if_false, not_true_eq_false, not_false_eq_true]
    exact q
set_option maxHeartbeats 1000000 in
theorem wl_mB {n : Nat} {w : Nat} (hn : n ≤ 16) (e4 : σ 44 4 = nI n) (h2 : ∀ k, k < n → σ 47 k ≠ nI w) : ∀ d i f, i + d = n → d < f → f_X7_madeAfter_10 f (nI w) 44 (nI i) σ = some (-nI 1, σ) := by
  intro d
  induction d with
  | zero =>
    intro i f hi hf
    obtain ⟨f, rfl⟩ : ∃ k, f = k + 1 := ⟨f - 1, by omega⟩
    simp -implicitDefEqProofs (disch := omega) only [e_X7_madeAfter_10, e_X7_madeAfter_10__1, e_X7_madeAfter_10__2, e_X7_madeAfter_10__3, e4, wx_bd, wx_let, wx_st, wx_lit, wx_ga, wx_sa, pk_mul, nI_add, wx_le, wx_lt, wx_eq, wx_en, wx_ne', wx_nn, wx_ltn, wx_len, wx_nlt, wx_nle, wx_bz0, wx_bz1, if_pos, if_neg, wx_ite, Nat.reduceEqDiff, eq_self, if_true, if_false, not_true_eq_false, not_false_eq_true]
  | succ d ih =>
    intro i f hi hf
    obtain ⟨f, rfl⟩ : ∃ k, f = k + 1 := ⟨f - 1, by omega⟩
    have q := ih (i + 1) f (by omega) (by omega)
    have c := h2 i (by omega)
    simp -implicitDefEqProofs (disch := omega) only [e_X7_madeAfter_10, e_X7_madeAfter_10__1, e_X7_madeAfter_10__2, e_X7_madeAfter_10__3, e4, c, sc_r44_2, sc_r44_3, sc_n47, sc_n48, wx_bd, wx_let, wx_st, wx_lit, wx_ga, wx_sa, pk_mul, nI_add, wx_le, wx_lt, wx_eq, wx_en, wx_ne', wx_nn, wx_ltn, wx_len, wx_nlt, wx_nle, wx_bz0, wx_bz1, if_pos, if_neg, wx_ite, Nat.reduceEqDiff, eq_self, if_true, if_false, not_true_eq_false, not_false_eq_true]
    exact q
set_option maxHeartbeats 1000000 in
theorem wl_after (h : wKn σ 0 τ) {w : Nat} (hw : w < 8) : (∀ a, wAf τ w = some a → a < 8) ∧ f_X7_madeAfter 280 (nI w) σ = some (wEn (wAf τ w), σ) ∧ f_X12_afterOf 0 (nI w) τ = some (wEn (wAf τ w), τ) := by
  obtain ⟨n, n16, e4, -, hr, hk⟩ := h
  simp only [Nat.zero_add] at e4 hr hk
  rcases hk w hw with ⟨i, i1, i2, i3, i4⟩ | ⟨i1, i2⟩
  · obtain ⟨-, a, a8, ha⟩ := hr i i1
    have ma := wl_mA n16 e4 i1 i2 i3 i 0 wg_N (by omega) (by rw [wx_N]; omega)
    rw [ha] at ma i4
    rw [nI_add] at i4
    have en : nI (a + 1) - nI 1 = nI a := pk_sub (by omega)
    have ne : ¬ nI (a + 1) = nI 0 := by rw [nI_eq (by omega) (by omega)]; omega
    have eA : wAf τ w = some a := by
      unfold wAf
      rw [i4, if_neg ne, en, nI_toInt (by omega)]
      rfl
    rw [eA]
    refine ⟨fun b hb => by cases hb; exact a8, ?_, ?_⟩
    · rw [e_X7_madeAfter]; exact ma
    · simp -implicitDefEqProofs (disch := omega) only [e_X12_afterOf, e_X12_afterOf__1, i4, en, wEn, wx_bd, wx_let, wx_st, wx_lit, wx_ga, wx_sa, pk_mul, nI_add, wx_le, wx_lt, wx_eq, wx_en, wx_ne', wx_nn, wx_ltn, wx_len, wx_nlt, wx_nle, wx_bz0, wx_bz1, if_pos, if_neg, wx_ite, Nat.reduceEqDiff, eq_self, if_true, if_false, not_true_eq_false, not_false_eq_true]
  · have mb := wl_mB n16 e4 i1 n 0 wg_N (by omega) (by rw [wx_N]; omega)
    have eA : wAf τ w = none := by
      unfold wAf
      rw [i2, if_pos rfl]
    have en : nI 0 - nI 1 = -nI 1 := by decide
    rw [eA]
    refine ⟨fun b hb => (nomatch hb), ?_, ?_⟩
    · rw [e_X7_madeAfter]; exact mb
    · simp -implicitDefEqProofs (disch := omega) only [e_X12_afterOf, e_X12_afterOf__1, i2, en, wEn, wx_bd, wx_let, wx_st, wx_lit, wx_ga, wx_sa, pk_mul, nI_add, wx_le, wx_lt, wx_eq, wx_en, wx_ne', wx_nn, wx_ltn, wx_len, wx_nlt, wx_nle, wx_bz0, wx_bz1, if_pos, if_neg, wx_ite, Nat.reduceEqDiff, eq_self, if_true, if_false, not_true_eq_false, not_false_eq_true]
set_option maxHeartbeats 1000000 in
theorem wl_root (h : wKn σ 0 τ) : ∀ d i n m S c, i + d = 8 → d < n → d < m → S < 256 → c < 8 → S.testBit c = false → wh_pc S = i → ∃ r, f_X7_rootOf_7 n 280 (nI S) (nI c) (nI i) σ = some (r, σ) ∧ f_X12_rootOf_6 m 0 (nI (S ||| 2 ^ c)) (nI c) τ = some (r, τ) := by
  intro d
  induction d with
  | zero =>
    intro i n m S c hi hn hm hS hc hb hp
    have := wk_full S hS (by omega) c hc
    rw [hb] at this
    cases this
  | succ d ih =>
    intro i n m S c hi hn hm hS hc hb hp
    obtain ⟨n, rfl⟩ : ∃ k, n = k + 1 := ⟨n - 1, by omega⟩
    obtain ⟨m, rfl⟩ : ∃ k, m = k + 1 := ⟨m - 1, by omega⟩
    obtain ⟨a1, a2, a3⟩ := wl_after h hc
    obtain ⟨p1, p2⟩ := wk_add S hS c hc hb
    have es := wx_shl8 c (by omega)
    have h2c : 2 ^ c ≤ 2 ^ 8 := Nat.pow_le_pow_right (by omega) (by omega)
    cases hA : wAf τ c with
    | none =>
      rw [hA] at a2 a3
      simp only [wEn] at a2 a3
      refine ⟨nI c, ?_, ?_⟩
      · simp -implicitDefEqProofs (disch := omega) only [e_X7_rootOf_7, e_X7_rootOf_7__1, e_X7_rootOf_7__2, e_X7_rootOf_7__3, es, fa_or, a2, wx_bd, wx_let, wx_st, wx_lit, wx_ga, wx_sa, pk_mul, nI_add, wx_le, wx_lt, wx_eq, wx_en, wx_ne', wx_nn, wx_ltn, wx_len, wx_nlt, wx_nle, wx_bz0, wx_bz1, if_pos, if_neg, wx_ite, Nat.reduceEqDiff, eq_self, if_true, if_false, not_true_eq_false, not_false_eq_true]
      · simp -implicitDefEqProofs (disch := omega) only [e_X12_rootOf_6, e_X12_rootOf_6__1, e_X12_rootOf_6__2, e_X12_rootOf_6__3, e_X12_rootOf_6__4, a3, wx_bd, wx_let, wx_st, wx_lit, wx_ga, wx_sa, pk_mul, nI_add, wx_le, wx_lt, wx_eq, wx_en, wx_ne', wx_nn, wx_ltn, wx_len, wx_nlt, wx_nle, wx_bz0, wx_bz1, if_pos, if_neg, wx_ite, Nat.reduceEqDiff, eq_self, if_true, if_false, not_true_eq_false, not_false_eq_true]
    | some a =>
      have a8 := a1 a hA
      rw [hA] at a2 a3
      simp only [wEn] at a2 a3
      have ne := wEn_ne a8
      have bt := wx_bit8 _ p2 a a8
      have es2 := wx_shl8 a (by omega)
      by_cases cb : (S ||| 2 ^ c).testBit a = true
      · rw [if_pos cb] at bt
        refine ⟨nI a, ?_, ?_⟩
        · simp -implicitDefEqProofs (disch := omega) only [e_X7_rootOf_7, e_X7_rootOf_7__1, e_X7_rootOf_7__2, e_X7_rootOf_7__3, es, fa_or, a2, ne, bt, wx_bd, wx_let, wx_st, wx_lit, wx_ga, wx_sa, pk_mul, nI_add, wx_le, wx_lt, wx_eq, wx_en, wx_ne', wx_nn, wx_ltn, wx_len, wx_nlt, wx_nle, wx_bz0, wx_bz1, if_pos, if_neg, wx_ite, Nat.reduceEqDiff, eq_self, if_true, if_false, not_true_eq_false, not_false_eq_true]
        · simp -implicitDefEqProofs (disch := omega) only [e_X12_rootOf_6, e_X12_rootOf_6__1, e_X12_rootOf_6__2, e_X12_rootOf_6__3, e_X12_rootOf_6__4, e_X12_has, a3, ne, bt, wx_bd, wx_let, wx_st, wx_lit, wx_ga, wx_sa, pk_mul, nI_add, wx_le, wx_lt, wx_eq, wx_en, wx_ne', wx_nn, wx_ltn, wx_len, wx_nlt, wx_nle, wx_bz0, wx_bz1, if_pos, if_neg, wx_ite, Nat.reduceEqDiff, eq_self, if_true, if_false, not_true_eq_false, not_false_eq_true]
      · rw [if_neg cb] at bt
        have h01 : ¬ nI 0 = nI 1 := by decide
        have h2a : 2 ^ a ≤ 2 ^ 8 := Nat.pow_le_pow_right (by omega) (by omega)
        obtain ⟨r, r1, r2⟩ := ih (i + 1) n m (S ||| 2 ^ c) a (by omega) (by omega) (by omega) p2 a8 (by simpa using cb) (by omega)
        refine ⟨r, ?_, ?_⟩
        · simp -implicitDefEqProofs (disch := omega) only [e_X7_rootOf_7, e_X7_rootOf_7__1, e_X7_rootOf_7__2, e_X7_rootOf_7__3, es, fa_or, a2, ne, bt, h01, wx_bd, wx_let, wx_st, wx_lit, wx_ga, wx_sa, pk_mul, nI_add, wx_le, wx_lt, wx_eq, wx_en, wx_ne', wx_nn, wx_ltn, wx_len, wx_nlt, wx_nle, wx_bz0, wx_bz1, if_pos, if_neg, wx_ite, Nat.reduceEqDiff, eq_self, if_true, if_false, not_true_eq_false, not_false_eq_true]
          exact r1
        · simp -implicitDefEqProofs (disch := omega) only [e_X12_rootOf_6, e_X12_rootOf_6__1, e_X12_rootOf_6__2, e_X12_rootOf_6__3, e_X12_rootOf_6__4, e_X12_has, a3, ne, bt, h01, es2, fa_or, wx_bd, wx_let, wx_st, wx_lit, wx_ga, wx_sa, pk_mul, nI_add, wx_le, wx_lt, wx_eq, wx_en, wx_ne', wx_nn, wx_ltn, wx_len, wx_nlt, wx_nle, wx_bz0, wx_bz1, if_pos, if_neg, wx_ite, Nat.reduceEqDiff, eq_self, if_true, if_false, not_true_eq_false, not_false_eq_true]
          exact r2
def wCl (τ : wg_M) (S : Nat) (o : Option Nat) : Prop := ∀ a, a < 8 → S.testBit a = true → (∀ b, wAf τ a = some b → S.testBit b = true ∨ o = some b) ∧ (wAf τ a = none → o = none)
set_option maxHeartbeats 1000000 in
theorem wCl_add {S c : Nat} (h : wCl τ S (some c)) : wCl τ (S ||| 2 ^ c) (wAf τ c) := by
  intro a ha hb
  rw [wk_or] at hb
  by_cases ca : c = a
  · subst ca
    exact ⟨fun b e => Or.inr e, fun e => e⟩
  · have hb : S.testBit a = true := by simpa [ca] using hb
    obtain ⟨q1, q2⟩ := h a ha hb
    refine ⟨fun b e => ?_, fun e => by have := q2 e; cases this⟩
    left
    rw [wk_or]
    rcases q1 b e with q | q
    · simp [q]
    · cases q; simp
set_option maxHeartbeats 1000000 in
theorem wl_stay (h : wKn σ 0 τ) {S : Nat} (hS : S < 256) {c0 : Nat} (hc0 : S.testBit c0 = true) (hcl : wCl τ S (some c0)) : ∀ d i n c, i + d = 8 → d < n → c < 8 → S.testBit c = true → f_X7_backSet_7 n 280 (nI S) (nI c) (nI i) σ = some (nI S, σ) := by
  intro d
  induction d with
  | zero =>
    intro i n c hi hn hc hb
    obtain ⟨n, rfl⟩ : ∃ k, n = k + 1 := ⟨n - 1, by omega⟩
    simp -implicitDefEqProofs (disch := omega) only [e_X7_backSet_7, e_X7_backSet_7__1, e_X7_backSet_7__2, e_X7_backSet_7__3, wx_bd, wx_let, wx_st, wx_lit, wx_ga, wx_sa, pk_mul, nI_add, wx_le, wx_lt, wx_eq, wx_en, wx_ne', wx_nn, wx_ltn, wx_len, wx_nlt, wx_nle, wx_bz0, wx_bz1, if_pos, if_neg, wx_ite, Nat.reduceEqDiff, eq_self, if_true, if_false, not_true_eq_false, not_false_eq_true]
  | succ d ih =>
    intro i n c hi hn hc hb
    obtain ⟨n, rfl⟩ : ∃ k, n = k + 1 := ⟨n - 1, by omega⟩
    obtain ⟨a1, a2, a3⟩ := wl_after h hc
    have es := wx_shl8 c (by omega)
    have h2c : 2 ^ c ≤ 2 ^ 8 := Nat.pow_le_pow_right (by omega) (by omega)
    have eo : S ||| 2 ^ c = S := by
      apply Nat.eq_of_testBit_eq
      intro j
      rw [wk_or]
      by_cases cj : c = j
      · subst cj; simp [hb]
      · simp [cj]
    obtain ⟨q1, q2⟩ := hcl c hc hb
    cases hA : wAf τ c with
    | none => cases q2 hA
    | some a =>
      have a8 := a1 a hA
      rw [hA] at a2
      simp only [wEn] at a2
      have hba : S.testBit a = true := by
        rcases q1 a hA with q | q
        · exact q
        · cases q; exact hc0
      have q := ih (i + 1) n a (by omega) (by omega) a8 hba
      have ne := wEn_ne hc
      simp -implicitDefEqProofs (disch := omega) only [e_X7_backSet_7, e_X7_backSet_7__1, e_X7_backSet_7__2, e_X7_backSet_7__3, es, fa_or, eo, a2, ne, wx_bd, wx_let, wx_st, wx_lit, wx_ga, wx_sa, pk_mul, nI_add, wx_le, wx_lt, wx_eq, wx_en, wx_ne', wx_nn, wx_ltn, wx_len, wx_nlt, wx_nle, wx_bz0, wx_bz1, if_pos, if_neg, wx_ite, Nat.reduceEqDiff, eq_self, if_true, if_false, not_true_eq_false, not_false_eq_true]
      exact q
set_option maxHeartbeats 1000000 in
theorem wl_back (h : wKn σ 0 τ) : ∀ d i n m S o, i + d = 8 → d < n → d + 1 < m → S < 256 → (∀ c, o = some c → c < 8) → wCl τ S o → wh_pc S = i → ∃ R, R < 256 ∧ f_X7_backSet_7 n 280 (nI S) (wEn o) (nI i) σ = some (nI R, σ) ∧ f_X12_backFrom_4 m 0 (nI S) (wEn o) τ = some (nI R, τ) := by
  intro d
  induction d with
  | zero =>
    intro i n m S o hi hn hm hS ho hcl hp
    obtain ⟨n, rfl⟩ : ∃ k, n = k + 1 := ⟨n - 1, by omega⟩
    obtain ⟨m, rfl⟩ : ∃ k, m = k + 1 := ⟨m - 1, by omega⟩
    refine ⟨S, hS, by simp -implicitDefEqProofs (disch := omega) only [e_X7_backSet_7, e_X7_backSet_7__1, e_X7_backSet_7__2, e_X7_backSet_7__3, wx_bd, wx_let, wx_st, wx_lit, wx_ga, wx_sa, pk_mul, nI_add, wx_le, wx_lt, wx_eq, wx_en, wx_ne', wx_nn, wx_ltn, wx_len, wx_nlt, wx_nle, wx_bz0, wx_bz1, if_pos, if_neg, wx_ite, Nat.reduceEqDiff, eq_self, if_true, if_false, not_true_eq_false, not_false_eq_true], ?_⟩
    cases o with
    | none => simp -implicitDefEqProofs (disch := omega) only [e_X12_backFrom_4, e_X12_backFrom_4__1, e_X12_backFrom_4__2, e_X12_backFrom_4__3, wEn, wx_bd, wx_let, wx_st, wx_lit, wx_ga, wx_sa, pk_mul, nI_add, wx_le, wx_lt, wx_eq, wx_en, wx_ne', wx_nn, wx_ltn, wx_len, wx_nlt, wx_nle, wx_bz0, wx_bz1, if_pos, if_neg, wx_ite, Nat.reduceEqDiff, eq_self, if_true, if_false, not_true_eq_false, not_false_eq_true]
    | some c =>
      have c8 := ho c rfl
      have bt := wx_bit8 _ hS c c8
      rw [if_pos (wk_full S hS (by omega) c c8)] at bt
      have ne := wEn_ne c8
      simp -implicitDefEqProofs (disch := omega) only [e_X12_backFrom_4, e_X12_backFrom_4__1, e_X12_backFrom_4__2, e_X12_backFrom_4__3, e_X12_has, wEn, ne, bt, wx_bd, wx_let, wx_st, wx_lit, wx_ga, wx_sa, pk_mul, nI_add, wx_le, wx_lt, wx_eq, wx_en, wx_ne', wx_nn, wx_ltn, wx_len, wx_nlt, wx_nle, wx_bz0, wx_bz1, if_pos, if_neg, wx_ite, Nat.reduceEqDiff, eq_self, if_true, if_false, not_true_eq_false, not_false_eq_true]
  | succ d ih =>
    intro i n m S o hi hn hm hS ho hcl hp
    cases o with
    | none =>
      obtain ⟨n, rfl⟩ : ∃ k, n = k + 1 := ⟨n - 1, by omega⟩
      obtain ⟨m, rfl⟩ : ∃ k, m = k + 1 := ⟨m - 1, by omega⟩
      exact ⟨S, hS, by simp -implicitDefEqProofs (disch := omega) only [e_X7_backSet_7, e_X7_backSet_7__1, e_X7_backSet_7__2, e_X7_backSet_7__3, wEn, wx_bd, wx_let, wx_st, wx_lit, wx_ga, wx_sa, pk_mul, nI_add, wx_le, wx_lt, wx_eq, wx_en, wx_ne', wx_nn, wx_ltn, wx_len, wx_nlt, wx_nle, wx_bz0, wx_bz1, if_pos, if_neg, wx_ite, Nat.reduceEqDiff, eq_self, if_true, if_false, not_true_eq_false, not_false_eq_true], by simp -implicitDefEqProofs (disch := omega) only [e_X12_backFrom_4, e_X12_backFrom_4__1, e_X12_backFrom_4__2, e_X12_backFrom_4__3, wEn, wx_bd, wx_let, wx_st, wx_lit, wx_ga, wx_sa, pk_mul, nI_add, wx_le, wx_lt, wx_eq, wx_en, wx_ne', wx_nn, wx_ltn, wx_len, wx_nlt, wx_nle, wx_bz0, wx_bz1, if_pos, if_neg, wx_ite, Nat.reduceEqDiff, eq_self, if_true, if_false, not_true_eq_false, not_false_eq_true]⟩
    | some c =>
      have c8 := ho c rfl
      have bt := wx_bit8 _ hS c c8
      have ne := wEn_ne c8
      by_cases cb : S.testBit c = true
      · rw [if_pos cb] at bt
        have st := wl_stay h hS cb hcl (d + 1) i n c (by omega) (by omega) c8 cb
        obtain ⟨m, rfl⟩ : ∃ k, m = k + 1 := ⟨m - 1, by omega⟩
        exact ⟨S, hS, st, by simp -implicitDefEqProofs (disch := omega) only [e_X12_backFrom_4, e_X12_backFrom_4__1, e_X12_backFrom_4__2, e_X12_backFrom_4__3, e_X12_has, wEn, ne, bt, wx_bd, wx_let, wx_st, wx_lit, wx_ga, wx_sa, pk_mul, nI_add, wx_le, wx_lt, wx_eq, wx_en, wx_ne', wx_nn, wx_ltn, wx_len, wx_nlt, wx_nle, wx_bz0, wx_bz1, if_pos, if_neg, wx_ite, Nat.reduceEqDiff, eq_self, if_true, if_false, not_true_eq_false, not_false_eq_true]⟩
      · rw [if_neg cb] at bt
        obtain ⟨n, rfl⟩ : ∃ k, n = k + 1 := ⟨n - 1, by omega⟩
        obtain ⟨m, rfl⟩ : ∃ k, m = k + 1 := ⟨m - 1, by omega⟩
        have h01 : ¬ nI 0 = nI 1 := by decide
        obtain ⟨p1, p2⟩ := wk_add S hS c c8 (by simpa using cb)
        have es := wx_shl8 c (by omega)
        have h2c : 2 ^ c ≤ 2 ^ 8 := Nat.pow_le_pow_right (by omega) (by omega)
        obtain ⟨a1, a2, a3⟩ := wl_after h c8
        obtain ⟨R, R1, R2, R3⟩ := ih (i + 1) n m (S ||| 2 ^ c) (wAf τ c) (by omega) (by omega) (by omega) p2 a1 (wCl_add hcl) (by omega)
        refine ⟨R, R1, ?_, ?_⟩
        · simp -implicitDefEqProofs (disch := omega) only [e_X7_backSet_7, e_X7_backSet_7__1, e_X7_backSet_7__2, e_X7_backSet_7__3, wEn, es, fa_or, a2, ne, wx_bd, wx_let, wx_st, wx_lit, wx_ga, wx_sa, pk_mul, nI_add, wx_le, wx_lt, wx_eq, wx_en, wx_ne', wx_nn, wx_ltn, wx_len, wx_nlt, wx_nle, wx_bz0, wx_bz1, if_pos, if_neg, wx_ite, Nat.reduceEqDiff, eq_self, if_true, if_false, not_true_eq_false, not_false_eq_true]
          exact R2
        · simp -implicitDefEqProofs (disch := omega) only [e_X12_backFrom_4, e_X12_backFrom_4__1, e_X12_backFrom_4__2, e_X12_backFrom_4__3, e_X12_has, wEn, ne, bt, h01, es, fa_or, a3, wx_bd, wx_let, wx_st, wx_lit, wx_ga, wx_sa, pk_mul, nI_add, wx_le, wx_lt, wx_eq, wx_en, wx_ne', wx_nn, wx_ltn, wx_len, wx_nlt, wx_nle, wx_bz0, wx_bz1, if_pos, if_neg, wx_ite, Nat.reduceEqDiff, eq_self, if_true, if_false, not_true_eq_false, not_false_eq_true]
          exact R3
end KI

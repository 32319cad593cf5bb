def wQ0 (MA F x : Nat) : Bool := decide (x &&& (1023 ^^^ MA) = 0 ∧ wh_pc x = 3 ∧ ¬ wh_pc (x &&& F) ≤ 1)
def wQj (MA F j x : Nat) : Bool := decide (x &&& (1023 ^^^ MA) = 0 ∧ wh_pc x = 3 ∧ x.testBit j = true ∧ wh_pc ((x &&& F) &&& (1023 ^^^ 2 ^ j)) = 1)
section PC
variable {nj MA F : Nat} {t : wg_M}
set_option maxHeartbeats 1000000 in
theorem wl_pan0 (hnj : nj ≤ 10) (n5 : t 0 7 = nI nj) (hF : F < 1024) (hM : MA < 1024) : ∀ d x n, x + d = 2 ^ nj → d < n → f_X12_panels_65 n 0 (nI 0) (nI F) (nI MA) (nI (wh_n (wQ0 MA F) x)) (nI x) t = some (nI (wh_n (wQ0 MA F) (2 ^ nj)), t) := by
  have h2 : 2 ^ nj ≤ 2 ^ 10 := Nat.pow_le_pow_right (by omega) hnj
  have es := wx_shl nj hnj
  intro d
  induction d with
  | zero =>
    intro x n hx hn
    obtain ⟨n, rfl⟩ : ∃ k, n = k + 1 := ⟨n - 1, by omega⟩
    rw [show x = 2 ^ nj by omega]
    simp -implicitDefEqProofs (disch := omega) only [e_X12_panels_65, e_X12_panels_65__1, e_X12_panels_65__2, e_X12_panels_65__3, n5, es, wx_bd, wx_let, wx_st, wx_lit, wx_ga, wx_sa, pk_mul, nI_add, wx_le, wx_lt, wx_eq, wx_en, wx_ne', wx_nn, wx_ltn, wx_len, wx_nlt, wx_nle, wx_bz0, wx_bz1, if_pos, if_neg, wx_ite, Nat.reduceEqDiff, eq_self, if_true, if_false, not_true_eq_false, not_false_eq_true]
  | succ d ih =>
    intro x n hx hn
    obtain ⟨n, rfl⟩ : ∃ k, n = k + 1 := ⟨n - 1, by omega⟩
    have r := ih (x + 1) n (by omega) (by omega)
    have cm := wl_cmp (show x < 1024 by omega) hM
    have y1 := wl_and1024 (b := 1023 ^^^ MA) (show x < 1024 by omega)
    have y2 := wl_and1024 (b := F) (show x < 1024 by omega)
    have o1 := wl_ones (show x < 1024 by omega) t
    have o2 := wl_ones y2 t
    have p1 : wh_pc x ≤ 10 := wh_n_le _ _
    have p2 : wh_pc (x &&& F) ≤ 10 := wh_n_le _ _
    have af := fa_and x F
    have hk := wh_n_le (wQ0 MA F) x
    have ks : wh_n (wQ0 MA F) (x + 1) = wh_n (wQ0 MA F) x + (if wQ0 MA F x = true then 1 else 0) := rfl
    by_cases c1 : x &&& (1023 ^^^ MA) = 0
    · rw [c1] at cm
      by_cases c2 : wh_pc x = 3
      · rw [c2] at o1
        by_cases c3 : wh_pc (x &&& F) ≤ 1
        · rw [ks, if_neg (by simp [wQ0, c3])] at r
          rw [← r]
          simp -implicitDefEqProofs (disch := omega) only [e_X12_panels_65, e_X12_panels_65__1, e_X12_panels_65__2, e_X12_panels_65__3, e_X12_panels_121, e_X12_panels_121__1, e_X12_panels_121__2, e_X12_panels_121__3, e_X12_panels_165, e_X12_panels_165__1, n5, es, cm, o1, af, o2, Nat.add_zero, wx_bd, wx_let, wx_st, wx_lit, wx_ga, wx_sa, pk_mul, nI_add, wx_le, wx_lt, wx_eq, wx_en, wx_ne', wx_nn, wx_ltn, wx_len, wx_nlt, wx_nle, wx_bz0, wx_bz1, if_pos, if_neg, wx_ite, Nat.reduceEqDiff, eq_self, if_true, if_false, not_true_eq_false, not_false_eq_true]
        · rw [ks, if_pos (by simp [wQ0, c1, c2]; omega)] at r
          rw [← r]
          simp -implicitDefEqProofs (disch := omega) only [e_X12_panels_65, e_X12_panels_65__1, e_X12_panels_65__2, e_X12_panels_65__3, e_X12_panels_121, e_X12_panels_121__1, e_X12_panels_121__2, e_X12_panels_121__3, e_X12_panels_165, e_X12_panels_165__1, n5, es, cm, o1, af, o2, Nat.add_zero, wx_bd, wx_let, wx_st, wx_lit, wx_ga, wx_sa, pk_mul, nI_add, wx_le, wx_lt, wx_eq, wx_en, wx_ne', wx_nn, wx_ltn, wx_len, wx_nlt, wx_nle, wx_bz0, wx_bz1, if_pos, if_neg, wx_ite, Nat.reduceEqDiff, eq_self, if_true, if_false, not_true_eq_false, not_false_eq_true]
      · rw [ks, if_neg (by simp [wQ0, c2])] at r
        rw [← r]
        simp -implicitDefEqProofs (disch := omega) only [e_X12_panels_65, e_X12_panels_65__1, e_X12_panels_65__2, e_X12_panels_65__3, e_X12_panels_121, e_X12_panels_121__1, e_X12_panels_121__2, e_X12_panels_121__3, e_X12_panels_165, e_X12_panels_165__1, n5, es, cm, o1, Nat.add_zero, wx_bd, wx_let, wx_st, wx_lit, wx_ga, wx_sa, pk_mul, nI_add, wx_le, wx_lt, wx_eq, wx_en, wx_ne', wx_nn, wx_ltn, wx_len, wx_nlt, wx_nle, wx_bz0, wx_bz1, if_pos, if_neg, wx_ite, Nat.reduceEqDiff, eq_self, if_true, if_false, not_true_eq_false, not_false_eq_true]
    · rw [ks, if_neg (by simp [wQ0, c1])] at r
      rw [← r]
      simp -implicitDefEqProofs (disch := omega) only [e_X12_panels_65, e_X12_panels_65__1, e_X12_panels_65__2, e_X12_panels_65__3, e_X12_panels_165, e_X12_panels_165__1, n5, es, cm, Nat.add_zero, wx_bd, wx_let, wx_st, wx_lit, wx_ga, wx_sa, pk_mul, nI_add, wx_le, wx_lt, wx_eq, wx_en, wx_ne', wx_nn, wx_ltn, wx_len, wx_nlt, wx_nle, wx_bz0, wx_bz1, if_pos, if_neg, wx_ite, Nat.reduceEqDiff, eq_self, if_true, if_false, not_true_eq_false, not_false_eq_true]
set_option maxHeartbeats 1000000 in
theorem wl_panj (hnj : nj ≤ 10) (n5 : t 0 7 = nI nj) (hF : F < 1024) (hM : MA < 1024) {j : Nat} (hj : j < nj) : ∀ d x n, x + d = 2 ^ nj → d < n → f_X12_panels_65 n 0 (nI (10 + j)) (nI F) (nI MA) (nI (wh_n (wQj MA F j) x)) (nI x) t = some (nI (wh_n (wQj MA F j) (2 ^ nj)), t) := by
  have h2 : 2 ^ nj ≤ 2 ^ 10 := Nat.pow_le_pow_right (by omega) hnj
  have hj2 : 2 ^ j < 2 ^ 10 := Nat.pow_lt_pow_right (by omega) (by omega)
  have es := wx_shl nj hnj
  have esj := wx_shl j (by omega)
  have e10 : nI (10 + j) - nI 10 = nI j := by
    rw [pk_sub (by omega)]; congr 1; omega
  have h01 : ¬ nI 0 = nI 1 := by decide
  intro d
  induction d with
  | zero =>
    intro x n hx hn
    obtain ⟨n, rfl⟩ : ∃ k, n = k + 1 := ⟨n - 1, by omega⟩
    rw [show x = 2 ^ nj by omega]
    simp -implicitDefEqProofs (disch := omega) only [e_X12_panels_65, e_X12_panels_65__1, e_X12_panels_65__2, e_X12_panels_65__3, n5, es, wx_bd, wx_let, wx_st, wx_lit, wx_ga, wx_sa, pk_mul, nI_add, wx_le, wx_lt, wx_eq, wx_en, wx_ne', wx_nn, wx_ltn, wx_len, wx_nlt, wx_nle, wx_bz0, wx_bz1, if_pos, if_neg, wx_ite, Nat.reduceEqDiff, eq_self, if_true, if_false, not_true_eq_false, not_false_eq_true]
  | succ d ih =>
    intro x n hx hn
    obtain ⟨n, rfl⟩ : ∃ k, n = k + 1 := ⟨n - 1, by omega⟩
    have r := ih (x + 1) n (by omega) (by omega)
    have cm := wl_cmp (show x < 1024 by omega) hM
    have y1 := wl_and1024 (b := 1023 ^^^ MA) (show x < 1024 by omega)
    have y2 := wl_and1024 (b := F) (show x < 1024 by omega)
    have cj := wl_cmp y2 (show 2 ^ j < 1024 by omega)
    have y3 := wl_and1024 (b := 1023 ^^^ 2 ^ j) y2
    have o1 := wl_ones (show x < 1024 by omega) t
    have o2 := wl_ones y3 t
    have p1 : wh_pc x ≤ 10 := wh_n_le _ _
    have p2 : wh_pc ((x &&& F) &&& (1023 ^^^ 2 ^ j)) ≤ 10 := wh_n_le _ _
    have af := fa_and x F
    have bt := wx_bit10 x (by omega) j (by omega)
    have hk := wh_n_le (wQj MA F j) x
    have ks : wh_n (wQj MA F j) (x + 1) = wh_n (wQj MA F j) x + (if wQj MA F j x = true then 1 else 0) := rfl
    by_cases c1 : x &&& (1023 ^^^ MA) = 0
    · rw [c1] at cm
      by_cases c2 : wh_pc x = 3
      · rw [c2] at o1
        by_cases c4 : x.testBit j = true
        · rw [if_pos c4] at bt
          by_cases c3 : wh_pc ((x &&& F) &&& (1023 ^^^ 2 ^ j)) = 1
          · rw [ks, if_pos (by simp [wQj, c1, c2, c3, c4])] at r
            rw [← r]
            rw [c3] at o2
            simp -implicitDefEqProofs (disch := omega) only [e_X12_panels_65, e_X12_panels_65__1, e_X12_panels_65__2, e_X12_panels_65__3, e_X12_panels_121, e_X12_panels_121__1, e_X12_panels_121__2, e_X12_panels_121__3, e_X12_panels_165, e_X12_panels_165__1, e_X12_has, n5, es, cm, o1, e10, bt, esj, af, cj, o2, wx_bd, wx_let, wx_st, wx_lit, wx_ga, wx_sa, pk_mul, nI_add, wx_le, wx_lt, wx_eq, wx_en, wx_ne', wx_nn, wx_ltn, wx_len, wx_nlt, wx_nle, wx_bz0, wx_bz1, if_pos, if_neg, wx_ite, Nat.reduceEqDiff, eq_self, if_true, if_false, not_true_eq_false, not_false_eq_true]
          · rw [ks, if_neg (by simp [wQj, c3])] at r
            rw [← r]
            simp -implicitDefEqProofs (disch := omega) only [e_X12_panels_65, e_X12_panels_65__1, e_X12_panels_65__2, e_X12_panels_65__3, e_X12_panels_121, e_X12_panels_121__1, e_X12_panels_121__2, e_X12_panels_121__3, e_X12_panels_165, e_X12_panels_165__1, e_X12_has, n5, es, cm, o1, e10, bt, esj, af, cj, o2, Nat.add_zero, wx_bd, wx_let, wx_st, wx_lit, wx_ga, wx_sa, pk_mul, nI_add, wx_le, wx_lt, wx_eq, wx_en, wx_ne', wx_nn, wx_ltn, wx_len, wx_nlt, wx_nle, wx_bz0, wx_bz1, if_pos, if_neg, wx_ite, Nat.reduceEqDiff, eq_self, if_true, if_false, not_true_eq_false, not_false_eq_true]
        · rw [if_neg c4] at bt
          rw [ks, if_neg (by simp [wQj, c4])] at r
          rw [← r]
          simp -implicitDefEqProofs (disch := omega) only [e_X12_panels_65, e_X12_panels_65__1, e_X12_panels_65__2, e_X12_panels_65__3, e_X12_panels_121, e_X12_panels_121__1, e_X12_panels_121__2, e_X12_panels_121__3, e_X12_panels_165, e_X12_panels_165__1, e_X12_has, n5, es, cm, o1, e10, bt, h01, Nat.add_zero, wx_bd, wx_let, wx_st, wx_lit, wx_ga, wx_sa, pk_mul, nI_add, wx_le, wx_lt, wx_eq, wx_en, wx_ne', wx_nn, wx_ltn, wx_len, wx_nlt, wx_nle, wx_bz0, wx_bz1, if_pos, if_neg, wx_ite, Nat.reduceEqDiff, eq_self, if_true, if_false, not_true_eq_false, not_false_eq_true]
      · rw [ks, if_neg (by simp [wQj, c2])] at r
        rw [← r]
        simp -implicitDefEqProofs (disch := omega) only [e_X12_panels_65, e_X12_panels_65__1, e_X12_panels_65__2, e_X12_panels_65__3, e_X12_panels_165, e_X12_panels_165__1, n5, es, cm, o1, Nat.add_zero, wx_bd, wx_let, wx_st, wx_lit, wx_ga, wx_sa, pk_mul, nI_add, wx_le, wx_lt, wx_eq, wx_en, wx_ne', wx_nn, wx_ltn, wx_len, wx_nlt, wx_nle, wx_bz0, wx_bz1, if_pos, if_neg, wx_ite, Nat.reduceEqDiff, eq_self, if_true, if_false, not_true_eq_false, not_false_eq_true]
    · rw [ks, if_neg (by simp [wQj, c1])] at r
      rw [← r]
      simp -implicitDefEqProofs (disch := omega) only [e_X12_panels_65, e_X12_panels_65__1, e_X12_panels_65__2, e_X12_panels_65__3, e_X12_panels_165, e_X12_panels_165__1, n5, es, cm, Nat.add_zero, wx_bd, wx_let, wx_st, wx_lit, wx_ga, wx_sa, pk_mul, nI_add, wx_le, wx_lt, wx_eq, wx_en, wx_ne', wx_nn, wx_ltn, wx_len, wx_nlt, wx_nle, wx_bz0, wx_bz1, if_pos, if_neg, wx_ite, Nat.reduceEqDiff, eq_self, if_true, if_false, not_true_eq_false, not_false_eq_true]
end PC
section PD
variable {nj : Nat} {τ : wg_M} {V : Nat → Nat}
set_option maxHeartbeats 1000000 in
theorem wl_cnt0 (hnj : nj ≤ 10) (hd : ∀ i, i < nj → τ 1 (23 + i) = nI 0 ∨ τ 1 (23 + i) = nI 1) : wh_n (wQ0 (wMA nj τ) (wh_m (wFs τ V) nj)) (2 ^ nj) = wcC (wck (wPk τ V none) 1 nj) 3 * wcC (wck (wPk τ V none) 2 nj) 0 * 1 + wcC (wck (wPk τ V none) 1 nj) 2 * wcC (wck (wPk τ V none) 2 nj) 1 * 1 := by
  have e3 : ∀ x, wct (wPk τ V none) 3 x nj = 0 := fun x => by
    unfold wct
    refine wh_n_0 (fun i _ => ?_)
    have : ¬ wPk τ V none i = 3 := by
      unfold wPk
      split
      · simp only [reduceCtorEq, if_false]; split <;> omega
      · omega
    simp [this]
  have c3 : ∀ k, wcC (wck (wPk τ V none) 3 k) 0 = 1 := fun k => wcC_0 _
  have A := wcN (wPk_lt τ V none) nj 3 0 0
  have B := wcN (wPk_lt τ V none) nj 2 1 0
  rw [c3] at A B
  rw [← A, ← B]
  refine wh_n_or (fun x hx => ?_)
  have s := wct_sum (wPk_lt τ V none) x nj
  rw [← wh_pc_k hnj hx, e3 x] at s
  have i1 := wMA_in (V := V) hnj hd hx none
  have i2 := wFs_ct (τ := τ) (V := V) hnj hx
  unfold wQ0 wcq
  rw [i2, e3 x]
  by_cases z : wct (wPk τ V none) 0 x nj = 0
  · have z' := i1.mpr z
    rw [z] at s ⊢
    simp only [z', true_and, and_true]
    constructor
    · rw [← Bool.decide_or]
      congr 1
      apply propext
      omega
    · rw [← Bool.decide_and]
      apply decide_eq_false
      omega
  · have z' : ¬ x &&& (1023 ^^^ wMA nj τ) = 0 := fun q => z (i1.mp q)
    simp [z, z']
set_option maxHeartbeats 1000000 in
theorem wl_cntj (hnj : nj ≤ 10) (hd : ∀ i, i < nj → τ 1 (23 + i) = nI 0 ∨ τ 1 (23 + i) = nI 1) {j : Nat} (hj : j < nj) : wh_n (wQj (wMA nj τ) (wh_m (wFs τ V) nj) j) (2 ^ nj) = wcC (wck (wPk τ V (some j)) 1 nj) 1 * wcC (wck (wPk τ V (some j)) 2 nj) 1 * wcC (wck (wPk τ V (some j)) 3 nj) 1 := by
  rw [← wcN (wPk_lt τ V (some j)) nj 1 1 1]
  refine wh_n_cg (fun x hx => ?_)
  have s := wct_sum (wPk_lt τ V (some j)) x nj
  rw [← wh_pc_k hnj hx] at s
  have i1 := wMA_in (V := V) hnj hd hx (some j)
  have i2 := wFs_cj (τ := τ) (V := V) hnj hj hx
  have e3 : wct (wPk τ V (some j)) 3 x nj = if x.testBit j = true ∧ τ 1 (23 + j) = nI 0 then 1 else 0 := by
    have k3 : ∀ i, (wPk τ V (some j) i = 3) ↔ (i = j ∧ τ 1 (23 + j) = nI 0) := fun i => by
      unfold wPk
      by_cases c : i = j
      · subst c
        by_cases c2 : τ 1 (23 + i) = nI 0 <;> simp [c2]
      · have c' : ¬ j = i := fun e => c e.symm
        by_cases c2 : τ 1 (23 + i) = nI 0
        · simp only [c2, if_true, Option.some.injEq, c', if_false, c, false_and, iff_false]
          split <;> omega
        · simp [c2, c]
    have gen : ∀ k, wct (wPk τ V (some j)) 3 x k = if j < k ∧ x.testBit j = true ∧ τ 1 (23 + j) = nI 0 then 1 else 0 := by
      intro k
      induction k with
      | zero => simp [wct, wh_n]
      | succ k ih =>
        unfold wct at ih ⊢
        simp only [wh_n]
        rw [ih]
        by_cases c : k = j
        · subst c
          by_cases c1 : x.testBit k = true
          · by_cases c2 : τ 1 (23 + k) = nI 0 <;> simp [c1, c2, k3]
          · simp [c1]
        · have : ¬ wPk τ V (some j) k = 3 := fun q => c ((k3 k).mp q).1
          simp only [this, decide_false, Bool.and_false, Bool.false_eq_true, if_false, Nat.add_zero]
          by_cases c2 : j < k
          · simp [c2, show j < k + 1 by omega]
          · simp [c2, show ¬ j < k + 1 by omega]
    rw [gen nj]
    simp [hj]
  unfold wQj wcq
  rw [i2]
  by_cases z : wct (wPk τ V (some j)) 0 x nj = 0
  · have z' := i1.mpr z
    have al : x.testBit j = true → τ 1 (23 + j) = nI 0 := fun q => by
      unfold wct at z
      have := wh_n_z.mp z j hj
      rw [q] at this
      have h0 : ¬ wPk τ V (some j) j = 0 := by simpa using this
      unfold wPk at h0
      by_cases c : τ 1 (23 + j) = nI 0
      · exact c
      · rw [if_neg c] at h0; exact absurd rfl h0
    rw [z] at s ⊢
    simp only [z', true_and, and_true]
    congr 1
    apply propext
    by_cases q : x.testBit j = true
    · rw [if_pos ⟨q, al q⟩] at e3
      rw [e3] at s ⊢
      simp only [q, true_and, and_true]
      omega
    · rw [if_neg (fun z => q z.1)] at e3
      rw [e3]
      simp [q]
  · have z' : ¬ x &&& (1023 ^^^ wMA nj τ) = 0 := fun q => z (i1.mp q)
    simp [z, z']
end PD

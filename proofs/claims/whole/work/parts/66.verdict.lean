/-! verdicts -/
def wh_q (x d : Int32) : Int32 := if 0 ≤ (x ^^^ d) then x / d else if x / d * d = x then x / d else x / d - 1
def wh_p (x d : Int32) : Int32 := if x < 0 then -((d - 1 - x) / d) else x / d
set_option maxHeartbeats 1000000 in
theorem wh_fd9 : ∀ a, a < 19 → ∀ g, g < 100 → wh_q ((nI a - nI 9) * nI g) (nI 9) = wh_p ((nI a - nI 9) * nI g) (nI 9) := by decide +kernel
set_option maxHeartbeats 1000000 in
theorem wh_fd20 : ∀ n, n < 1999 → wh_q (nI n - nI 999) (nI 20) = wh_p (nI n - nI 999) (nI 20) := by decide +kernel
set_option maxHeartbeats 1000000 in
theorem wh_qC {x d : Int32} (hd : ¬ d = nI 0) (σ : wg_M) : f_J9_floorDiv_7cf53 x d σ = some (wh_q x d, σ) := by
  have hd : ¬ d = 0 := hd
  unfold f_J9_floorDiv_7cf53 wg_dv wh_q
  rw [if_neg hd]
  dsimp only
  split
  · rfl
  · split <;> rfl
set_option maxHeartbeats 1000000 in
theorem wh_pM {x d : Int32} (hd : ¬ d = nI 0) (τ : wg_M) : f_X12_partOf 0 x d τ = some (wh_p x d, τ) := by
  have hd : ¬ d = 0 := hd
  rw [e_X12_partOf]
  unfold wg_dv wh_p
  by_cases c : x < 0
  · rw [if_pos c, if_neg hd, if_pos c]; rfl
  · rw [if_neg c, if_neg hd, if_neg c]; rfl
set_option maxHeartbeats 1000000 in
theorem wx_of9 {x : Int32} (h1 : -9 ≤ x.toInt) (h2 : x.toInt ≤ 9) : ∃ a, a < 19 ∧ x = nI a - nI 9 := by
  refine ⟨(x.toInt + 9).toNat, by omega, ?_⟩
  apply Int32.toInt_inj.mp
  rw [pk_sub_toInt (by omega) (by omega)]
  omega
set_option maxHeartbeats 1000000 in
/-- a verdict -/
theorem wh_v_in (x : Int32) : ∃ n, n < 1999 ∧ wh_h x (-nI 999) (nI 999) = nI n - nI 999 := by
  have key : ∀ y : Int32, -999 ≤ y.toInt → y.toInt ≤ 999 → ∃ n, n < 1999 ∧ y = nI n - nI 999 := by
    intro y h1 h2
    refine ⟨(y.toInt + 999).toNat, by omega, ?_⟩
    apply Int32.toInt_inj.mp
    rw [pk_sub_toInt (by omega) (by omega)]
    omega
  have e1 : (-nI 999).toInt = -999 := wx_neg_toInt (b := 999) (by omega)
  have e2 : (nI 999).toInt = 999 := nI_toInt (n := 999) (by omega)
  apply key
  · unfold wh_h
    split
    · next c =>
      rw [Int32.le_iff_toInt_le, e1] at c
      split
      · exact c
      · rw [e2]; omega
    · rw [e1]; omega
  · unfold wh_h
    split
    · split
      · next c => rw [Int32.le_iff_toInt_le, e2] at c; exact c
      · rw [e2]; omega
    · rw [e1]; omega
section VE
variable {nw nj nc : Nat}
set_option maxHeartbeats 1000000 in
theorem wl_verdict_l {w k j c : Nat} (hn : nw ≤ 8 ∧ nj ≤ 10 ∧ nc ≤ 14) (hw : w < nw) (hk8 : k ≤ 8) (hj : j < nj) (hc : c < nc) : ∀ d i n m a σ τ, wB nw nj nc σ 1 (τ 1) τ → wN nw nj nc τ → wLw σ 0 τ → τ 1 (67 + w) = nI k → i + d = k → d < n → d < m → ∃ r σ' τ', f_X1_verdictOf_64 n 279 (nI c) (nI j) a (nI w) (nI k) (nI i) σ = some (wh_h r (-nI 999) (nI 999), σ') ∧ f_X12_verdictOf_26 m 0 (nI c) (nI j) a (nI w) (nI i) τ = some (wh_h r (-nI 999) (nI 999), τ') ∧ wSc σ σ' ∧ wSm τ τ' := by
  obtain ⟨n1, n2, n3⟩ := hn
  have hle : -nI 999 ≤ nI 999 := by rw [wx_nle (by omega) (by omega)]; trivial
  intro d
  induction d with
  | zero =>
    intro i n m a σ τ h hN hL hk hi hn hm
    obtain ⟨n, rfl⟩ : ∃ k, n = k + 1 := ⟨n - 1, by omega⟩
    obtain ⟨m, rfl⟩ : ∃ k, m = k + 1 := ⟨m - 1, by omega⟩
    refine ⟨a, σ, τ, ?_, ?_, wSc_rfl _, wSm_rfl _⟩
    · simp -implicitDefEqProofs (disch := omega) only [e_X1_verdictOf_64, e_X1_verdictOf_64__1, e_X1_verdictOf_64__2, e_X1_verdictOf_64__3, e_X1_verdictOf_64__4, e_X1_verdictOf_64__5, e_X1_verdictOf_64__6, e_X1_verdictOf_64__7, e_X1_verdictOf_64__8, wh_hC hle, wx_bd, wx_let, wx_st, wx_lit, wx_ga, wx_sa, pk_mul, nI_add, wx_le, wx_lt, wx_eq, wx_en, wx_ne', wx_nn, wx_ltn, wx_len, wx_nlt, wx_nle, wx_bz0, wx_bz1, if_pos, if_neg, wx_ite, Nat.reduceEqDiff, eq_self, if_true, if_false, not_true_eq_false, not_false_eq_true]
    · simp -implicitDefEqProofs (disch := omega) only [e_X12_verdictOf_26, e_X12_verdictOf_26__1, e_X12_verdictOf_26__2, e_X12_verdictOf_26__3, e_X12_verdictOf_26__4, e_X12_verdictOf_26__5, e_X12_verdictOf_26__6, e_X12_verdictOf_26__7, e_X12_verdictOf_26__8, e_X12_verdictOf_26__9, e_X12_verdictOf_109, e_X12_verdictOf_109__1, hk, wh_hM, wx_bd, wx_let, wx_st, wx_lit, wx_ga, wx_sa, pk_mul, nI_add, wx_le, wx_lt, wx_eq, wx_en, wx_ne', wx_nn, wx_ltn, wx_len, wx_nlt, wx_nle, wx_bz0, wx_bz1, if_pos, if_neg, wx_ite, Nat.reduceEqDiff, eq_self, if_true, if_false, not_true_eq_false, not_false_eq_true]
  | succ d ih =>
    intro i n m a σ τ h hN hL hk hi hn hm
    obtain ⟨n, rfl⟩ : ∃ k, n = k + 1 := ⟨n - 1, by omega⟩
    obtain ⟨m, rfl⟩ : ∃ k, m = k + 1 := ⟨m - 1, by omega⟩
    have hik : i < k := by omega
    have e8 := wb_cause h hw hk hk8 hik
    have e9 := wb_ruling h hw hk hk8 hik
    have e17 := wb_ccause h hc
    by_cases cc : τ 1 (75 + 24 * w + 3 * i) = τ 6 c
    · obtain ⟨g, σ1, τ1, g1, g2, g3, g4, g5⟩ := wl_counts h hN hL hw hk hk8 hik hj
      have hB1 := wB_s ⟨n1, n2, n3⟩ g4 g5 h
      have hN1 := wN_s g5 hN
      have hL1 := wLw_s g4 g5 hL
      obtain ⟨x, x1, x2⟩ := wx_of9 (wb_ru h hw hk hk8 hik).2.2.2.2.1.1 (wb_ru h hw hk hk8 hik).2.2.2.2.1.2
      have hd9 : ¬ nI 9 = nI 0 := by decide
      have ef := wh_fd9 x x1 g (by omega)
      obtain ⟨r, σ', τ', r1, r2, r3, r4⟩ := ih (i + 1) n m (a + wh_p ((nI x - nI 9) * nI g) (nI 9)) σ1 τ1 hB1 hN1 hL1 (by rw [g5 1 (by omega) (by omega)]; exact hk) (by omega) (by omega) (by omega)
      refine ⟨r, σ', τ', ?_, ?_, wSc_tr g4 r3, wSm_tr g5 r4⟩
      · simp -implicitDefEqProofs (disch := omega) only [e_X1_verdictOf_64, e_X1_verdictOf_64__1, e_X1_verdictOf_64__2, e_X1_verdictOf_64__3, e_X1_verdictOf_64__4, e_X1_verdictOf_64__5, e_X1_verdictOf_64__6, e_X1_verdictOf_64__7, e_X1_verdictOf_64__8, e_X1_verdictOf_131, e_X1_verdictOf_131__1, e8, e9, e17, cc, g2, x2, wh_qC hd9, ef, wx_bd, wx_let, wx_st, wx_lit, wx_ga, wx_sa, pk_mul, nI_add, wx_le, wx_lt, wx_eq, wx_en, wx_ne', wx_nn, wx_ltn, wx_len, wx_nlt, wx_nle, wx_bz0, wx_bz1, if_pos, if_neg, wx_ite, Nat.reduceEqDiff, eq_self, if_true, if_false, not_true_eq_false, not_false_eq_true]
        exact r1
      · simp -implicitDefEqProofs (disch := omega) only [e_X12_verdictOf_26, e_X12_verdictOf_26__1, e_X12_verdictOf_26__2, e_X12_verdictOf_26__3, e_X12_verdictOf_26__4, e_X12_verdictOf_26__5, e_X12_verdictOf_26__6, e_X12_verdictOf_26__7, e_X12_verdictOf_26__8, e_X12_verdictOf_26__9, e_X12_verdictOf_103, e_X12_verdictOf_103__1, e_X12_ruleAt, hk, cc, g3, x2, wh_pM hd9, wx_bd, wx_let, wx_st, wx_lit, wx_ga, wx_sa, pk_mul, nI_add, wx_le, wx_lt, wx_eq, wx_en, wx_ne', wx_nn, wx_ltn, wx_len, wx_nlt, wx_nle, wx_bz0, wx_bz1, if_pos, if_neg, wx_ite, Nat.reduceEqDiff, eq_self, if_true, if_false, not_true_eq_false, not_false_eq_true]
        exact r2
    · obtain ⟨r, σ', τ', r1, r2, r3, r4⟩ := ih (i + 1) n m a σ τ h hN hL hk (by omega) (by omega) (by omega)
      refine ⟨r, σ', τ', ?_, ?_, r3, r4⟩
      · simp -implicitDefEqProofs (disch := omega) only [e_X1_verdictOf_64, e_X1_verdictOf_64__1, e_X1_verdictOf_64__2, e_X1_verdictOf_64__3, e_X1_verdictOf_64__4, e_X1_verdictOf_64__5, e_X1_verdictOf_64__6, e_X1_verdictOf_64__7, e_X1_verdictOf_64__8, e_X1_verdictOf_131, e_X1_verdictOf_131__1, e8, e9, e17, cc, wx_bd, wx_let, wx_st, wx_lit, wx_ga, wx_sa, pk_mul, nI_add, wx_le, wx_lt, wx_eq, wx_en, wx_ne', wx_nn, wx_ltn, wx_len, wx_nlt, wx_nle, wx_bz0, wx_bz1, if_pos, if_neg, wx_ite, Nat.reduceEqDiff, eq_self, if_true, if_false, not_true_eq_false, not_false_eq_true]
        exact r1
      · simp -implicitDefEqProofs (disch := omega) only [e_X12_verdictOf_26, e_X12_verdictOf_26__1, e_X12_verdictOf_26__2, e_X12_verdictOf_26__3, e_X12_verdictOf_26__4, e_X12_verdictOf_26__5, e_X12_verdictOf_26__6, e_X12_verdictOf_26__7, e_X12_verdictOf_26__8, e_X12_verdictOf_26__9, e_X12_verdictOf_103, e_X12_verdictOf_103__1, e_X12_ruleAt, hk, cc, wx_bd, wx_let, wx_st, wx_lit, wx_ga, wx_sa, pk_mul, nI_add, wx_le, wx_lt, wx_eq, wx_en, wx_ne', wx_nn, wx_ltn, wx_len, wx_nlt, wx_nle, wx_bz0, wx_bz1, if_pos, if_neg, wx_ite, Nat.reduceEqDiff, eq_self, if_true, if_false, not_true_eq_false, not_false_eq_true]
        exact r2
set_option maxHeartbeats 1000000 in
theorem wl_verdict {σ τ : wg_M} (h : wB nw nj nc σ 1 (τ 1) τ) (hN : wN nw nj nc τ) (hL : wLw σ 0 τ) {j c : Nat} (hj : j < nj) (hc : c < nc) : ∃ v σ' τ', v < 1999 ∧ f_X1_verdictOf 279 (nI c) (nI j) σ = some (nI v - nI 999, σ') ∧ f_X12_verdictOf 0 (nI c) (nI j) τ = some (nI v - nI 999, τ') ∧ wSc σ σ' ∧ wSm τ τ' := by
  have hn : nw ≤ 8 ∧ nj ≤ 10 ∧ nc ≤ 14 := ⟨hN.1, hN.2.1, hN.2.2.1⟩
  have hle : -nI 999 ≤ nI 999 := by rw [wx_nle (by omega) (by omega)]; trivial
  obtain ⟨n1, n2, n3, n4, n5, n6⟩ := id hN
  have e18 := wb_merit h hc
  have e13 := wb_mind h hj
  have e14 := wb_worn h hj
  have e2 := wb_nw h
  rcases wb_wornc h hj with cw | ⟨w, hw, cw⟩
  · rw [cw, wx_m1] at e14
    obtain ⟨v, v1, v2⟩ := wh_v_in (τ 7 c + nI 3 * τ 5 j)
    refine ⟨v, σ, τ, v1, ?_, ?_, wSc_rfl _, wSm_rfl _⟩
    · simp -implicitDefEqProofs (disch := omega) only [e_X1_verdictOf, e_X1_verdictOf__1, e_X1_verdictOf__2, e_X1_verdictOf__3, e_X1_verdictOf__4, e_X1_verdictOf__5, e_X1_verdictOf__6, e_X1_verdictOf_59, e_X9_has, e18, e13, e14, e2, wx_bd, wx_let, wx_st, wx_lit, wx_ga, wx_sa, pk_mul, nI_add, wx_le, wx_lt, wx_eq, wx_en, wx_ne', wx_nn, wx_ltn, wx_len, wx_nlt, wx_nle, wx_bz0, wx_bz1, if_pos, if_neg, wx_ite, Nat.reduceEqDiff, eq_self, if_true, if_false, not_true_eq_false, not_false_eq_true]
      obtain ⟨N, hN5⟩ : ∃ N, wg_N = N + 1 := ⟨4999, rfl⟩
      rw [hN5]
      simp -implicitDefEqProofs (disch := omega) only [e_X1_verdictOf_64, e_X1_verdictOf_64__1, e_X1_verdictOf_64__2, e_X1_verdictOf_64__3, e_X1_verdictOf_64__4, e_X1_verdictOf_64__5, e_X1_verdictOf_64__6, e_X1_verdictOf_64__7, e_X1_verdictOf_64__8, wh_hC hle, v2, wx_bd, wx_let, wx_st, wx_lit, wx_ga, wx_sa, pk_mul, nI_add, wx_le, wx_lt, wx_eq, wx_en, wx_ne', wx_nn, wx_ltn, wx_len, wx_nlt, wx_nle, wx_bz0, wx_bz1, if_pos, if_neg, wx_ite, Nat.reduceEqDiff, eq_self, if_true, if_false, not_true_eq_false, not_false_eq_true]
    · simp -implicitDefEqProofs (disch := omega) only [e_X12_verdictOf, e_X12_verdictOf__1, e_X12_verdictOf__2, e_X12_verdictOf__3, e_X12_verdictOf__4, e_X12_wigOf, e_X12_wigOf__1, cw, wx_m1, wx_bd, wx_let, wx_st, wx_lit, wx_ga, wx_sa, pk_mul, nI_add, wx_le, wx_lt, wx_eq, wx_en, wx_ne', wx_nn, wx_ltn, wx_len, wx_nlt, wx_nle, wx_bz0, wx_bz1, if_pos, if_neg, wx_ite, Nat.reduceEqDiff, eq_self, if_true, if_false, not_true_eq_false, not_false_eq_true]
      obtain ⟨N, hN5⟩ : ∃ N, wg_N = N + 1 := ⟨4999, rfl⟩
      rw [hN5]
      simp -implicitDefEqProofs (disch := omega) only [e_X12_verdictOf_26, e_X12_verdictOf_26__1, e_X12_verdictOf_26__2, e_X12_verdictOf_26__3, e_X12_verdictOf_26__4, e_X12_verdictOf_26__5, e_X12_verdictOf_26__6, e_X12_verdictOf_26__7, e_X12_verdictOf_26__8, e_X12_verdictOf_26__9, e_X12_verdictOf_109, e_X12_verdictOf_109__1, wh_hM, v2, wx_bd, wx_let, wx_st, wx_lit, wx_ga, wx_sa, pk_mul, nI_add, wx_le, wx_lt, wx_eq, wx_en, wx_ne', wx_nn, wx_ltn, wx_len, wx_nlt, wx_nle, wx_bz0, wx_bz1, if_pos, if_neg, wx_ite, Nat.reduceEqDiff, eq_self, if_true, if_false, not_true_eq_false, not_false_eq_true]
  · rw [cw, wx_sub1] at e14
    obtain ⟨k, k1, k2, -⟩ := wb_k h hw
    have e7 := wb_rules h hw
    rw [k2] at e7
    obtain ⟨r, σ', τ', r1, r2, r3, r4⟩ := wl_verdict_l hn hw k1 hj hc k 0 wg_N wg_N (τ 7 c + nI 3 * τ 5 j) σ τ h hN hL k2 (by omega) (by rw [wx_N]; omega) (by rw [wx_N]; omega)
    obtain ⟨v, v1, v2⟩ := wh_v_in r
    rw [v2] at r1 r2
    refine ⟨v, σ', τ', v1, ?_, ?_, r3, r4⟩
    · simp -implicitDefEqProofs (disch := omega) only [e_X1_verdictOf, e_X1_verdictOf__1, e_X1_verdictOf__2, e_X1_verdictOf__3, e_X1_verdictOf__4, e_X1_verdictOf__5, e_X1_verdictOf__6, e_X1_verdictOf_59, e_X9_has, e18, e13, e14, e2, e7, wx_bd, wx_let, wx_st, wx_lit, wx_ga, wx_sa, pk_mul, nI_add, wx_le, wx_lt, wx_eq, wx_en, wx_ne', wx_nn, wx_ltn, wx_len, wx_nlt, wx_nle, wx_bz0, wx_bz1, if_pos, if_neg, wx_ite, Nat.reduceEqDiff, eq_self, if_true, if_false, not_true_eq_false, not_false_eq_true]
      exact r1
    · simp -implicitDefEqProofs (disch := omega) only [e_X12_verdictOf, e_X12_verdictOf__1, e_X12_verdictOf__2, e_X12_verdictOf__3, e_X12_verdictOf__4, e_X12_wigOf, e_X12_wigOf__1, cw, wx_sub1, wx_bd, wx_let, wx_st, wx_lit, wx_ga, wx_sa, pk_mul, nI_add, wx_le, wx_lt, wx_eq, wx_en, wx_ne', wx_nn, wx_ltn, wx_len, wx_nlt, wx_nle, wx_bz0, wx_bz1, if_pos, if_neg, wx_ite, Nat.reduceEqDiff, eq_self, if_true, if_false, not_true_eq_false, not_false_eq_true]
      exact r2
end VE

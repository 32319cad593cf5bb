/-! what would go on: a thought -/
def wh_s (f : Nat → Int32) : Nat → Int32
  | 0 => nI 0
  | k + 1 => wh_s f k + f k
section GO
variable {nw nj nc : Nat} {σ τ : wg_M}
def wDs (τ : wg_M) (j : Nat) : Bool := decide (τ 1 (23 + j) = nI 1)
def wVs (τ : wg_M) (c : Nat) : Bool := decide (¬ τ 1 (267 + c) ≤ nI 1000)
set_option maxHeartbeats 1000000 in
theorem wl_dead_l (h : wB nw nj nc σ 1 (τ 1) τ) (hN : wN nw nj nc τ) : ∀ d i m, i + d = nj → d < m → f_X12_deadSet_4 m 0 (nI (wh_m (wDs τ) i)) (nI i) τ = some (nI (wh_m (wDs τ) nj), τ) := by
  have hN' := hN
  obtain ⟨n1, n2, n3, n4, n5, n6⟩ := hN
  intro d
  induction d with
  | zero =>
    intro i m hi hm
    obtain ⟨m, rfl⟩ : ∃ k, m = k + 1 := ⟨m - 1, by omega⟩
    rw [show i = nj by omega]
    simp -implicitDefEqProofs (disch := omega) only [e_X12_deadSet_4, e_X12_deadSet_4__1, e_X12_deadSet_4__2, n5, wx_bd, wx_let, wx_st, wx_lit, wx_ga, wx_sa, pk_mul, nI_add, wx_le, wx_lt, wx_eq, wx_en, wx_ne', wx_nn, wx_ltn, wx_len, wx_nlt, wx_nle, wx_bz0, wx_bz1, if_pos, if_neg, wx_ite, Nat.reduceEqDiff, eq_self, if_true, if_false, not_true_eq_false, not_false_eq_true]
  | succ d ih =>
    intro i m hi hm
    obtain ⟨m, rfl⟩ : ∃ k, m = k + 1 := ⟨m - 1, by omega⟩
    have q := ih (i + 1) m (by omega) (by omega)
    have es := wx_shl i (by omega)
    have hd : nI 0 ≠ nI 1 := by decide
    rcases wl_alive h hN' (show i < nj by omega) with ⟨c, -, c2⟩ | ⟨c, -, c2⟩
    · simp only [wh_m, wDs, c, hd, decide_false, Bool.false_eq_true, if_false] at q ⊢
      simp -implicitDefEqProofs (disch := omega) only [e_X12_deadSet_4, e_X12_deadSet_4__1, e_X12_deadSet_4__2, e_X12_deadSet_26, e_X12_deadSet_26__1, n5, c2, wx_bd, wx_let, wx_st, wx_lit, wx_ga, wx_sa, pk_mul, nI_add, wx_le, wx_lt, wx_eq, wx_en, wx_ne', wx_nn, wx_ltn, wx_len, wx_nlt, wx_nle, wx_bz0, wx_bz1, if_pos, if_neg, wx_ite, Nat.reduceEqDiff, eq_self, if_true, if_false, not_true_eq_false, not_false_eq_true]; exact q
    · simp only [wh_m, wDs, c, decide_true, if_true] at q ⊢
      simp -implicitDefEqProofs (disch := omega) only [e_X12_deadSet_4, e_X12_deadSet_4__1, e_X12_deadSet_4__2, e_X12_deadSet_26, e_X12_deadSet_26__1, n5, c2, es, fa_or, wx_bd, wx_let, wx_st, wx_lit, wx_ga, wx_sa, pk_mul, nI_add, wx_le, wx_lt, wx_eq, wx_en, wx_ne', wx_nn, wx_ltn, wx_len, wx_nlt, wx_nle, wx_bz0, wx_bz1, if_pos, if_neg, wx_ite, Nat.reduceEqDiff, eq_self, if_true, if_false, not_true_eq_false, not_false_eq_true]; exact q
set_option maxHeartbeats 1000000 in
theorem wh_m10 (p : Nat → Bool) {k : Nat} (hk : k ≤ 10) : wh_m p k < 1024 := by
  have h1 := wh_m_lt p k
  have h2 : 2 ^ k ≤ 2 ^ 10 := Nat.pow_le_pow_right (by omega) hk
  omega
set_option maxHeartbeats 1000000 in
theorem wl_dead (h : wB nw nj nc σ 1 (τ 1) τ) (hN : wN nw nj nc τ) : f_X2_deadSet 11 σ = some (nI (wh_m (wDs τ) nj), σ) ∧ f_X12_deadSet 0 τ = some (nI (wh_m (wDs τ) nj), τ) := by
  have q : f_X12_deadSet 0 τ = some (nI (wh_m (wDs τ) nj), τ) := wl_dead_l h hN nj 0 wg_N (by omega) (by have := hN.2.1; rw [wx_N]; omega)
  obtain ⟨r, r1, r2⟩ := wl_deadSet h hN
  rw [r2] at q
  have e : r = nI (wh_m (wDs τ) nj) := by
    have := Option.some.inj q
    exact (Prod.mk.inj this).1
  rw [← e]
  exact ⟨r1, r2⟩
/-- what is summed up -/
def wSu (nw nj nc : Nat) (τ : wg_M) (k : Nat) : Int32 := if k = 0 then nI (wh_pc (wh_m (wDs τ) nj)) else if k = 1 then wh_s (fun i => τ 1 (67 + i)) nw else if k = 2 then wh_s (fun i => τ 1 (43 + i)) nw else nI (wh_n (wVs τ) nc)
set_option maxHeartbeats 1000000 in
theorem wl_ar_l (h : wB nw nj nc σ 1 (τ 1) τ) (hN : wN nw nj nc τ) : ∀ d i n, i + d = nw → d < n → f_X0_allRules_4 n 1 (wh_s (fun i => τ 1 (67 + i)) i) (nI i) σ = some (wh_s (fun i => τ 1 (67 + i)) nw, σ) := by
  obtain ⟨n1, n2, n3, n4, n5, n6⟩ := hN
  intro d
  induction d with
  | zero =>
    intro i n hi hn
    obtain ⟨n, rfl⟩ : ∃ k, n = k + 1 := ⟨n - 1, by omega⟩
    rw [show i = nw by omega]
    simp -implicitDefEqProofs (disch := omega) only [e_X0_allRules_4, e_X0_allRules_4__1, e_X0_allRules_4__2, e_X0_allRules_4__3, wb_nw h, wx_bd, wx_let, wx_st, wx_lit, wx_ga, wx_sa, pk_mul, nI_add, wx_le, wx_lt, wx_eq, wx_en, wx_ne', wx_nn, wx_ltn, wx_len, wx_nlt, wx_nle, wx_bz0, wx_bz1, if_pos, if_neg, wx_ite, Nat.reduceEqDiff, eq_self, if_true, if_false, not_true_eq_false, not_false_eq_true]
  | succ d ih =>
    intro i n hi hn
    obtain ⟨n, rfl⟩ : ∃ k, n = k + 1 := ⟨n - 1, by omega⟩
    have q := ih (i + 1) n (by omega) (by omega)
    simp -implicitDefEqProofs (disch := omega) only [e_X0_allRules_4, e_X0_allRules_4__1, e_X0_allRules_4__2, e_X0_allRules_4__3, wb_nw h, wb_rules h, wx_bd, wx_let, wx_st, wx_lit, wx_ga, wx_sa, pk_mul, nI_add, wx_le, wx_lt, wx_eq, wx_en, wx_ne', wx_nn, wx_ltn, wx_len, wx_nlt, wx_nle, wx_bz0, wx_bz1, if_pos, if_neg, wx_ite, Nat.reduceEqDiff, eq_self, if_true, if_false, not_true_eq_false, not_false_eq_true]
    exact q
set_option maxHeartbeats 1000000 in
theorem wx_all8 : ∀ n, n ≤ 8 → ∀ i, i < n → (nI (2 ^ n - 1) >>> (nI i &&& nI 31)) &&& nI 1 = nI 1 := by decide +kernel
set_option maxHeartbeats 1000000 in
theorem wl_ha_l (h : wB nw nj nc σ 1 (τ 1) τ) (hN : wN nw nj nc τ) : ∀ d i n, i + d = nw → d < n → f_X9_hairOf_4 n 2 (nI (2 ^ nw - 1)) (wh_s (fun i => τ 1 (43 + i)) i) (nI i) σ = some (wh_s (fun i => τ 1 (43 + i)) nw, σ) := by
  obtain ⟨n1, n2, n3, n4, n5, n6⟩ := hN
  intro d
  induction d with
  | zero =>
    intro i n hi hn
    obtain ⟨n, rfl⟩ : ∃ k, n = k + 1 := ⟨n - 1, by omega⟩
    rw [show i = nw by omega]
    simp -implicitDefEqProofs (disch := omega) only [e_X9_hairOf_4, e_X9_hairOf_4__1, e_X9_hairOf_4__2, wb_nw h, wx_bd, wx_let, wx_st, wx_lit, wx_ga, wx_sa, pk_mul, nI_add, wx_le, wx_lt, wx_eq, wx_en, wx_ne', wx_nn, wx_ltn, wx_len, wx_nlt, wx_nle, wx_bz0, wx_bz1, if_pos, if_neg, wx_ite, Nat.reduceEqDiff, eq_self, if_true, if_false, not_true_eq_false, not_false_eq_true]
  | succ d ih =>
    intro i n hi hn
    obtain ⟨n, rfl⟩ : ∃ k, n = k + 1 := ⟨n - 1, by omega⟩
    have q := ih (i + 1) n (by omega) (by omega)
    have b := wx_all8 nw n1 i (by omega)
    simp -implicitDefEqProofs (disch := omega) only [e_X9_hairOf_4, e_X9_hairOf_4__1, e_X9_hairOf_4__2, e_X9_hairOf_30, e_X9_hairOf_30__1, wb_nw h, wb_hair h, b, wx_bd, wx_let, wx_st, wx_lit, wx_ga, wx_sa, pk_mul, nI_add, wx_le, wx_lt, wx_eq, wx_en, wx_ne', wx_nn, wx_ltn, wx_len, wx_nlt, wx_nle, wx_bz0, wx_bz1, if_pos, if_neg, wx_ite, Nat.reduceEqDiff, eq_self, if_true, if_false, not_true_eq_false, not_false_eq_true]
    exact q
set_option maxHeartbeats 1000000 in
theorem wV_p {x y : Int32} (h : wV x y) : (x ≤ nI 0) = (y ≤ nI 1000) := by
  rcases h with ⟨h1, h2⟩ | ⟨n, h1, h2, h3, h4⟩
  · subst h1 h2; decide
  · apply propext
    rw [h3, h4, Int32.le_iff_toInt_le, Int32.le_iff_toInt_le, pk_sub_toInt (by omega) (by omega), nI_toInt (by omega), nI_toInt (by omega), nI_toInt (by omega)]
    omega
set_option maxHeartbeats 1000000 in
theorem wl_va_l (h : wB nw nj nc σ 1 (τ 1) τ) (hN : wN nw nj nc τ) : ∀ d i n, i + d = nc → d < n → f_X0_verdictsAbove_4 n 1 (nI (wh_n (wVs τ) i)) (nI i) σ = some (nI (wh_n (wVs τ) nc), σ) := by
  obtain ⟨n1, n2, n3, n4, n5, n6⟩ := hN
  intro d
  induction d with
  | zero =>
    intro i n hi hn
    obtain ⟨n, rfl⟩ : ∃ k, n = k + 1 := ⟨n - 1, by omega⟩
    rw [show i = nc by omega]
    simp -implicitDefEqProofs (disch := omega) only [e_X0_verdictsAbove_4, e_X0_verdictsAbove_4__1, e_X0_verdictsAbove_4__2, wb_nc h, wx_bd, wx_let, wx_st, wx_lit, wx_ga, wx_sa, pk_mul, nI_add, wx_le, wx_lt, wx_eq, wx_en, wx_ne', wx_nn, wx_ltn, wx_len, wx_nlt, wx_nle, wx_bz0, wx_bz1, if_pos, if_neg, wx_ite, Nat.reduceEqDiff, eq_self, if_true, if_false, not_true_eq_false, not_false_eq_true]
  | succ d ih =>
    intro i n hi hn
    obtain ⟨n, rfl⟩ : ∃ k, n = k + 1 := ⟨n - 1, by omega⟩
    have q := ih (i + 1) n (by omega) (by omega)
    have hv := wV_p (wb_verdict h (show i < nc by omega))
    by_cases c : τ 1 (267 + i) ≤ nI 1000
    · simp only [wh_n, wVs, c, not_true_eq_false, decide_false, Bool.false_eq_true, if_false, Nat.add_zero] at q ⊢
      simp -implicitDefEqProofs (disch := omega) only [e_X0_verdictsAbove_4, e_X0_verdictsAbove_4__1, e_X0_verdictsAbove_4__2, e_X0_verdictsAbove_24, e_X0_verdictsAbove_24__1, wb_nc h, hv, c, wx_bd, wx_let, wx_st, wx_lit, wx_ga, wx_sa, pk_mul, nI_add, wx_le, wx_lt, wx_eq, wx_en, wx_ne', wx_nn, wx_ltn, wx_len, wx_nlt, wx_nle, wx_bz0, wx_bz1, if_pos, if_neg, wx_ite, Nat.reduceEqDiff, eq_self, if_true, if_false, not_true_eq_false, not_false_eq_true]
      exact q
    · simp only [wh_n, wVs, c, not_false_eq_true, decide_true, if_true] at q ⊢
      simp -implicitDefEqProofs (disch := omega) only [e_X0_verdictsAbove_4, e_X0_verdictsAbove_4__1, e_X0_verdictsAbove_4__2, e_X0_verdictsAbove_24, e_X0_verdictsAbove_24__1, wb_nc h, hv, c, wx_bd, wx_let, wx_st, wx_lit, wx_ga, wx_sa, pk_mul, nI_add, wx_le, wx_lt, wx_eq, wx_en, wx_ne', wx_nn, wx_ltn, wx_len, wx_nlt, wx_nle, wx_bz0, wx_bz1, if_pos, if_neg, wx_ite, Nat.reduceEqDiff, eq_self, if_true, if_false, not_true_eq_false, not_false_eq_true]
      exact q
set_option maxHeartbeats 1000000 in
theorem wl_sumUp (h : wB nw nj nc σ 1 (τ 1) τ) (hN : wN nw nj nc τ) {k : Nat} (hk : k < 4) : f_X0_sumUp 1 (nI k) σ = some (wSu nw nj nc τ k, σ) := by
  obtain ⟨n1, n2, n3, n4, n5, n6⟩ := id hN
  have hp := wx_p2 nw n1
  have es := wx_shl nw (by omega)
  have ep : nI (2 ^ nw) - nI 1 = nI (2 ^ nw - 1) := pk_sub (by omega)
  have g1 : f_X0_allRules 1 σ = some (wh_s (fun i => τ 1 (67 + i)) nw, σ) := wl_ar_l h hN nw 0 wg_N (by omega) (by rw [wx_N]; omega)
  have g2 : f_X9_hairOf 2 (nI (2 ^ nw - 1)) σ = some (wh_s (fun i => τ 1 (43 + i)) nw, σ) := wl_ha_l h hN nw 0 wg_N (by omega) (by rw [wx_N]; omega)
  have g3 : f_X0_verdictsAbove 1 σ = some (nI (wh_n (wVs τ) nc), σ) := wl_va_l h hN nc 0 wg_N (by omega) (by rw [wx_N]; omega)
  have g0 := (wl_dead h hN).1
  have gb := wh_bc_pc (wh_m (wDs τ) nj) (wh_m10 _ n2)
  unfold wSu
  rcases (show k = 0 ∨ k = 1 ∨ k = 2 ∨ k = 3 by omega) with rfl | rfl | rfl | rfl
  · rw [e_X0_sumUp, wx_swk0]
    simp -implicitDefEqProofs (disch := omega) only [e_X0_sumUp, e_X0_sumUp__1, e_X0_sumUp__2, e_X0_sumUp__3, e_X0_sumUp__4, e_X0_sumUp__5, g0, wh_bcC, gb, wx_bd, wx_let, wx_st, wx_lit, wx_ga, wx_sa, pk_mul, nI_add, wx_le, wx_lt, wx_eq, wx_en, wx_ne', wx_nn, wx_ltn, wx_len, wx_nlt, wx_nle, wx_bz0, wx_bz1, if_pos, if_neg, wx_ite, Nat.reduceEqDiff, eq_self, if_true, if_false, not_true_eq_false, not_false_eq_true]
  · rw [e_X0_sumUp, wx_swk1]
    simp -implicitDefEqProofs (disch := omega) only [e_X0_sumUp, e_X0_sumUp__1, e_X0_sumUp__2, e_X0_sumUp__3, e_X0_sumUp__4, e_X0_sumUp__5, g1, wx_bd, wx_let, wx_st, wx_lit, wx_ga, wx_sa, pk_mul, nI_add, wx_le, wx_lt, wx_eq, wx_en, wx_ne', wx_nn, wx_ltn, wx_len, wx_nlt, wx_nle, wx_bz0, wx_bz1, if_pos, if_neg, wx_ite, Nat.reduceEqDiff, eq_self, if_true, if_false, not_true_eq_false, not_false_eq_true]
  · rw [e_X0_sumUp, wx_swk2]
    simp -implicitDefEqProofs (disch := omega) only [e_X0_sumUp, e_X0_sumUp__1, e_X0_sumUp__2, e_X0_sumUp__3, e_X0_sumUp__4, e_X0_sumUp__5, wb_nw h, es, ep, g2, wx_bd, wx_let, wx_st, wx_lit, wx_ga, wx_sa, pk_mul, nI_add, wx_le, wx_lt, wx_eq, wx_en, wx_ne', wx_nn, wx_ltn, wx_len, wx_nlt, wx_nle, wx_bz0, wx_bz1, if_pos, if_neg, wx_ite, Nat.reduceEqDiff, eq_self, if_true, if_false, not_true_eq_false, not_false_eq_true]
  · rw [e_X0_sumUp, wx_sw_out (fun k hk e => by
      have hk : k < 3 := by simpa using hk
      have := (nI_eq (by omega) (by omega)).mp e
      omega) (by simp)]
    simp -implicitDefEqProofs (disch := omega) only [e_X0_sumUp, e_X0_sumUp__1, e_X0_sumUp__2, e_X0_sumUp__3, e_X0_sumUp__4, e_X0_sumUp__5, g3, wx_bd, wx_let, wx_st, wx_lit, wx_ga, wx_sa, pk_mul, nI_add, wx_le, wx_lt, wx_eq, wx_en, wx_ne', wx_nn, wx_ltn, wx_len, wx_nlt, wx_nle, wx_bz0, wx_bz1, if_pos, if_neg, wx_ite, Nat.reduceEqDiff, eq_self, if_true, if_false, not_true_eq_false, not_false_eq_true]
set_option maxHeartbeats 1000000 in
theorem wl_g107 (h : wB nw nj nc σ 1 (τ 1) τ) (hN : wN nw nj nc τ) {k : Nat} (hk : k < 4) : ∀ d i n, i + d = nc → d < n → f_X12_goes_107 n 0 (nI k) (wh_s (fun i => τ 1 (67 + i)) nw) (wh_s (fun i => τ 1 (43 + i)) nw) (nI (wh_n (wVs τ) i)) (nI i) τ = f_X12_goes_181 0 (wSu nw nj nc τ k) τ := by
  obtain ⟨n1, n2, n3, n4, n5, n6⟩ := id hN
  have g0 := (wl_dead h hN).2
  have go := wl_ones (wh_m10 (wDs τ) n2) τ
  intro d
  induction d with
  | zero =>
    intro i n hi hn
    obtain ⟨n, rfl⟩ : ∃ k, n = k + 1 := ⟨n - 1, by omega⟩
    rw [show i = nc by omega]
    unfold wSu
    rcases (show k = 0 ∨ k = 1 ∨ k = 2 ∨ k = 3 by omega) with rfl | rfl | rfl | rfl
    · simp -implicitDefEqProofs (disch := omega) only [e_X12_goes_107, e_X12_goes_107__1, e_X12_goes_107__2, e_X12_goes_107__3, e_X12_goes_107__4, n6, g0, go, wx_bd, wx_let, wx_st, wx_lit, wx_ga, wx_sa, pk_mul, nI_add, wx_le, wx_lt, wx_eq, wx_en, wx_ne', wx_nn, wx_ltn, wx_len, wx_nlt, wx_nle, wx_bz0, wx_bz1, if_pos, if_neg, wx_ite, Nat.reduceEqDiff, eq_self, if_true, if_false, not_true_eq_false, not_false_eq_true]
    · simp -implicitDefEqProofs (disch := omega) only [e_X12_goes_107, e_X12_goes_107__1, e_X12_goes_107__2, e_X12_goes_107__3, e_X12_goes_107__4, n6, wx_bd, wx_let, wx_st, wx_lit, wx_ga, wx_sa, pk_mul, nI_add, wx_le, wx_lt, wx_eq, wx_en, wx_ne', wx_nn, wx_ltn, wx_len, wx_nlt, wx_nle, wx_bz0, wx_bz1, if_pos, if_neg, wx_ite, Nat.reduceEqDiff, eq_self, if_true, if_false, not_true_eq_false, not_false_eq_true]
    · simp -implicitDefEqProofs (disch := omega) only [e_X12_goes_107, e_X12_goes_107__1, e_X12_goes_107__2, e_X12_goes_107__3, e_X12_goes_107__4, n6, wx_bd, wx_let, wx_st, wx_lit, wx_ga, wx_sa, pk_mul, nI_add, wx_le, wx_lt, wx_eq, wx_en, wx_ne', wx_nn, wx_ltn, wx_len, wx_nlt, wx_nle, wx_bz0, wx_bz1, if_pos, if_neg, wx_ite, Nat.reduceEqDiff, eq_self, if_true, if_false, not_true_eq_false, not_false_eq_true]
    · simp -implicitDefEqProofs (disch := omega) only [e_X12_goes_107, e_X12_goes_107__1, e_X12_goes_107__2, e_X12_goes_107__3, e_X12_goes_107__4, n6, wx_bd, wx_let, wx_st, wx_lit, wx_ga, wx_sa, pk_mul, nI_add, wx_le, wx_lt, wx_eq, wx_en, wx_ne', wx_nn, wx_ltn, wx_len, wx_nlt, wx_nle, wx_bz0, wx_bz1, if_pos, if_neg, wx_ite, Nat.reduceEqDiff, eq_self, if_true, if_false, not_true_eq_false, not_false_eq_true]
  | succ d ih =>
    intro i n hi hn
    obtain ⟨n, rfl⟩ : ∃ k, n = k + 1 := ⟨n - 1, by omega⟩
    have q := ih (i + 1) n (by omega) (by omega)
    by_cases c : τ 1 (267 + i) ≤ nI 1000
    · simp only [wh_n, wVs, c, not_true_eq_false, decide_false, Bool.false_eq_true, if_false, Nat.add_zero] at q ⊢
      simp -implicitDefEqProofs (disch := omega) only [e_X12_goes_107, e_X12_goes_107__1, e_X12_goes_107__2, e_X12_goes_107__3, e_X12_goes_107__4, e_X12_goes_139, e_X12_goes_139__1, n6, c, wx_bd, wx_let, wx_st, wx_lit, wx_ga, wx_sa, pk_mul, nI_add, wx_le, wx_lt, wx_eq, wx_en, wx_ne', wx_nn, wx_ltn, wx_len, wx_nlt, wx_nle, wx_bz0, wx_bz1, if_pos, if_neg, wx_ite, Nat.reduceEqDiff, eq_self, if_true, if_false, not_true_eq_false, not_false_eq_true]
      exact q
    · simp only [wh_n, wVs, c, not_false_eq_true, decide_true, if_true] at q ⊢
      simp -implicitDefEqProofs (disch := omega) only [e_X12_goes_107, e_X12_goes_107__1, e_X12_goes_107__2, e_X12_goes_107__3, e_X12_goes_107__4, e_X12_goes_139, e_X12_goes_139__1, n6, c, wx_bd, wx_let, wx_st, wx_lit, wx_ga, wx_sa, pk_mul, nI_add, wx_le, wx_lt, wx_eq, wx_en, wx_ne', wx_nn, wx_ltn, wx_len, wx_nlt, wx_nle, wx_bz0, wx_bz1, if_pos, if_neg, wx_ite, Nat.reduceEqDiff, eq_self, if_true, if_false, not_true_eq_false, not_false_eq_true]
      exact q
set_option maxHeartbeats 1000000 in
theorem wl_g61 (h : wB nw nj nc σ 1 (τ 1) τ) (hN : wN nw nj nc τ) {k : Nat} (hk : k < 4) : ∀ d i n, i + d = nw → d < n → f_X12_goes_61 n 0 (nI k) (wh_s (fun i => τ 1 (67 + i)) i) (wh_s (fun i => τ 1 (43 + i)) i) (nI 0) (nI i) τ = f_X12_goes_181 0 (wSu nw nj nc τ k) τ := by
  obtain ⟨n1, n2, n3, n4, n5, n6⟩ := id hN
  intro d
  induction d with
  | zero =>
    intro i n hi hn
    obtain ⟨n, rfl⟩ : ∃ k, n = k + 1 := ⟨n - 1, by omega⟩
    rw [show i = nw by omega]
    have q := wl_g107 h hN hk nc 0 wg_N (by omega) (by rw [wx_N]; omega)
    simp -implicitDefEqProofs (disch := omega) only [e_X12_goes_61, e_X12_goes_61__1, e_X12_goes_61__2, e_X12_goes_61__3, e_X12_goes_61__4, e_X12_goes_61__5, n4, wx_bd, wx_let, wx_st, wx_lit, wx_ga, wx_sa, pk_mul, nI_add, wx_le, wx_lt, wx_eq, wx_en, wx_ne', wx_nn, wx_ltn, wx_len, wx_nlt, wx_nle, wx_bz0, wx_bz1, if_pos, if_neg, wx_ite, Nat.reduceEqDiff, eq_self, if_true, if_false, not_true_eq_false, not_false_eq_true]
    exact q
  | succ d ih =>
    intro i n hi hn
    obtain ⟨n, rfl⟩ : ∃ k, n = k + 1 := ⟨n - 1, by omega⟩
    have q := ih (i + 1) n (by omega) (by omega)
    simp -implicitDefEqProofs (disch := omega) only [e_X12_goes_61, e_X12_goes_61__1, e_X12_goes_61__2, e_X12_goes_61__3, e_X12_goes_61__4, e_X12_goes_61__5, n4, wx_bd, wx_let, wx_st, wx_lit, wx_ga, wx_sa, pk_mul, nI_add, wx_le, wx_lt, wx_eq, wx_en, wx_ne', wx_nn, wx_ltn, wx_len, wx_nlt, wx_nle, wx_bz0, wx_bz1, if_pos, if_neg, wx_ite, Nat.reduceEqDiff, eq_self, if_true, if_false, not_true_eq_false, not_false_eq_true]
    exact q
set_option maxHeartbeats 1000000 in
theorem wl_gthk_l {N : Nat} (hN : N ≤ 60) (x : Int32) : ∀ d i n m σ τ, i + d = N → d < n → d < m → wX true nw nj nc σ τ → ∃ σ' τ', f_X11_goes_30 n 281 (nI N) x (nI i) σ = f_X11_goes_30 1 281 (nI N) x (nI N) σ' ∧ f_X12_goes_34 m 0 (nI N) x (nI i) τ = f_X12_goes_61 wg_N 0 x (nI 0) (nI 0) (nI 0) (nI 0) τ' ∧ wX true nw nj nc σ' τ' ∧ wFq σ σ' τ τ' := by
  intro d
  induction d with
  | zero =>
    intro i n m σ τ hi hn hm hX
    obtain ⟨n, rfl⟩ : ∃ k, n = k + 1 := ⟨n - 1, by omega⟩
    obtain ⟨m, rfl⟩ : ∃ k, m = k + 1 := ⟨m - 1, by omega⟩
    rw [show i = N by omega]
    refine ⟨σ, τ, ?_, ?_, hX, wFr_q (wFr_rfl σ τ)⟩
    · rw [show (1 : Nat) = 0 + 1 from rfl]
      simp -implicitDefEqProofs (disch := omega) only [e_X11_goes_30, wx_bd, wx_let, wx_st, wx_lit, wx_ga, wx_sa, pk_mul, nI_add, wx_le, wx_lt, wx_eq, wx_en, wx_ne', wx_nn, wx_ltn, wx_len, wx_nlt, wx_nle, wx_bz0, wx_bz1, if_pos, if_neg, wx_ite, Nat.reduceEqDiff, eq_self, if_true, if_false, not_true_eq_false, not_false_eq_true]
    · simp -implicitDefEqProofs (disch := omega) only [e_X12_goes_34, e_X12_goes_34__1, e_X12_goes_34__2, wx_bd, wx_let, wx_st, wx_lit, wx_ga, wx_sa, pk_mul, nI_add, wx_le, wx_lt, wx_eq, wx_en, wx_ne', wx_nn, wx_ltn, wx_len, wx_nlt, wx_nle, wx_bz0, wx_bz1, if_pos, if_neg, wx_ite, Nat.reduceEqDiff, eq_self, if_true, if_false, not_true_eq_false, not_false_eq_true]
  | succ d ih =>
    intro i n m σ τ hi hn hm hX
    obtain ⟨n, rfl⟩ : ∃ k, n = k + 1 := ⟨n - 1, by omega⟩
    obtain ⟨m, rfl⟩ : ∃ k, m = k + 1 := ⟨m - 1, by omega⟩
    obtain ⟨x, s1, t1, x1, p1, p2, X1, F1, -⟩ := wl_year hX
    obtain ⟨s2, t2, r1, r2, r3, r4⟩ := ih (i + 1) n m s1 t1 (by omega) (by omega) (by omega) X1
    refine ⟨s2, t2, ?_, ?_, r3, wFq_tr F1 r4⟩
    · rw [← r1]
      simp -implicitDefEqProofs (disch := omega) only [e_X11_goes_30, e_X11_goes_30__1, e_X11_goes_30__2, e_X11_goes_30__3, e_X11_goes_30__4, p1, wx_bd, wx_let, wx_st, wx_lit, wx_ga, wx_sa, pk_mul, nI_add, wx_le, wx_lt, wx_eq, wx_en, wx_ne', wx_nn, wx_ltn, wx_len, wx_nlt, wx_nle, wx_bz0, wx_bz1, if_pos, if_neg, wx_ite, Nat.reduceEqDiff, eq_self, if_true, if_false, not_true_eq_false, not_false_eq_true]
    · simp -implicitDefEqProofs (disch := omega) only [e_X12_goes_34, e_X12_goes_34__1, e_X12_goes_34__2, p2, wx_bd, wx_let, wx_st, wx_lit, wx_ga, wx_sa, pk_mul, nI_add, wx_le, wx_lt, wx_eq, wx_en, wx_ne', wx_nn, wx_ltn, wx_len, wx_nlt, wx_nle, wx_bz0, wx_bz1, if_pos, if_neg, wx_ite, Nat.reduceEqDiff, eq_self, if_true, if_false, not_true_eq_false, not_false_eq_true]
      exact r2
end GO

/-! bounds, both sides at once -/
set_option maxHeartbeats 1000000 in
theorem wk_in (x : Int32) (a b : Nat) (ha : a < 2147483648) (hb : b < 2147483648) : ((∀ σ, f_X11_within x (nI a) (nI b) σ = some (nI 0, σ)) ∧ ∀ σ, f_X12_isIn 0 x (nI a) (nI b) σ = some (nI 0, σ)) ∨ ∃ j, a ≤ j ∧ j ≤ b ∧ x = nI j ∧ (∀ σ, f_X11_within (nI j) (nI a) (nI b) σ = some (nI 1, σ)) ∧ ∀ σ, f_X12_isIn 0 (nI j) (nI a) (nI b) σ = some (nI 1, σ) := by
  by_cases h1 : x < nI a
  · left
    exact ⟨fun σ => by rw [e_X11_within, if_pos h1]; rfl, fun σ => by rw [e_X12_isIn, if_pos h1]; rfl⟩
  · by_cases h2 : nI b < x
    · left
      exact ⟨fun σ => by rw [e_X11_within, if_neg h1, if_pos h2]; rfl, fun σ => by rw [e_X12_isIn, if_neg h1, if_pos h2]; rfl⟩
    · right
      have h0 : ¬ x < nI 0 := by
        intro h
        apply h1
        rw [Int32.lt_iff_toInt_lt, nI_toInt (by omega)] at h ⊢
        omega
      obtain ⟨j, hj, rfl⟩ := wx_in h0 h2 hb
      rw [wx_lt (by omega) ha] at h1
      rw [wx_lt hb (by omega)] at h2
      refine ⟨j, by omega, hj, rfl, fun σ => ?_, fun σ => ?_⟩
      · rw [e_X11_within, if_neg (by rw [wx_lt (by omega) ha]; exact h1), if_neg (by rw [wx_lt hb (by omega)]; exact h2)]; rfl
      · rw [e_X12_isIn, if_neg (by rw [wx_lt (by omega) ha]; exact h1), if_neg (by rw [wx_lt hb (by omega)]; exact h2)]; rfl
set_option maxHeartbeats 1000000 in
theorem wk_inn (x : Int32) (a b : Nat) (ha : a < 2147483648) (hb : b < 2147483648) : ((∀ σ, f_X11_within x (-nI a) (nI b) σ = some (nI 0, σ)) ∧ ∀ σ, f_X12_isIn 0 x (-nI a) (nI b) σ = some (nI 0, σ)) ∨ (-(a : Int) ≤ x.toInt ∧ x.toInt ≤ b ∧ (∀ σ, f_X11_within x (-nI a) (nI b) σ = some (nI 1, σ)) ∧ ∀ σ, f_X12_isIn 0 x (-nI a) (nI b) σ = some (nI 1, σ)) := by
  by_cases h1 : x < -nI a
  · left
    exact ⟨fun σ => by rw [e_X11_within, if_pos h1]; rfl, fun σ => by rw [e_X12_isIn, if_pos h1]; rfl⟩
  · by_cases h2 : nI b < x
    · left
      exact ⟨fun σ => by rw [e_X11_within, if_neg h1, if_pos h2]; rfl, fun σ => by rw [e_X12_isIn, if_neg h1, if_pos h2]; rfl⟩
    · right
      refine ⟨?_, ?_, fun σ => by rw [e_X11_within, if_neg h1, if_neg h2]; rfl, fun σ => by rw [e_X12_isIn, if_neg h1, if_neg h2]; rfl⟩
      · rw [Int32.lt_iff_toInt_lt, wx_neg_toInt ha] at h1; omega
      · rw [Int32.lt_iff_toInt_lt, nI_toInt hb] at h2; omega
set_option maxHeartbeats 1000000 in
theorem wk_wig {σ τ : wg_M} {nw : Nat} (hc : σ 2 8 = nI nw) (hm : τ 0 6 = nI nw) (hn : nw ≤ 8) (x : Int32) : (f_X9_has 2 x σ = some (nI 0, σ) ∧ f_X12_isWig 0 x τ = some (nI 0, τ)) ∨ ∃ w, w < nw ∧ x = nI w ∧ f_X9_has 2 (nI w) σ = some (nI 1, σ) ∧ f_X12_isWig 0 (nI w) τ = some (nI 1, τ) := by
  rw [e_X9_has, e_X12_isWig, hc, hm]
  rcases wx_is x nw (by omega) with h | ⟨h0, h⟩ | ⟨w, hw, rfl⟩
  · left; simp only [wx_lit, h, if_true, and_self]
  · left; simp only [wx_lit, h0, h, if_true, if_false, and_self]
  · right
    refine ⟨w, hw, rfl, ?_, ?_⟩
    · rw [e_X9_has, hc]; simp -implicitDefEqProofs (disch := omega) only [wx_bd, wx_let, wx_st, wx_lit, wx_ga, wx_sa, pk_mul, nI_add, wx_le, wx_lt, wx_eq, wx_en, wx_ne', wx_nn, wx_ltn, wx_len, wx_nlt, wx_nle, wx_bz0, wx_bz1, if_pos, if_neg, wx_ite, Nat.reduceEqDiff, eq_self, if_true, if_false, not_true_eq_false, not_false_eq_true]
    · rw [e_X12_isWig, hm]; simp -implicitDefEqProofs (disch := omega) only [wx_bd, wx_let, wx_st, wx_lit, wx_ga, wx_sa, pk_mul, nI_add, wx_le, wx_lt, wx_eq, wx_en, wx_ne', wx_nn, wx_ltn, wx_len, wx_nlt, wx_nle, wx_bz0, wx_bz1, if_pos, if_neg, wx_ite, Nat.reduceEqDiff, eq_self, if_true, if_false, not_true_eq_false, not_false_eq_true]
set_option maxHeartbeats 1000000 in
theorem wk_jdg {σ τ : wg_M} {nj : Nat} (hc : σ 11 5 = nI nj) (hm : τ 0 7 = nI nj) (hn : nj ≤ 10) (x : Int32) : (f_X2_has 11 x σ = some (nI 0, σ) ∧ f_X12_isJudge 0 x τ = some (nI 0, τ)) ∨ ∃ w, w < nj ∧ x = nI w ∧ f_X2_has 11 (nI w) σ = some (nI 1, σ) ∧ f_X12_isJudge 0 (nI w) τ = some (nI 1, τ) := by
  rw [e_X2_has, e_X12_isJudge, hc, hm]
  rcases wx_is x nj (by omega) with h | ⟨h0, h⟩ | ⟨w, hw, rfl⟩
  · left; simp only [wx_lit, h, if_true, and_self]
  · left; simp only [wx_lit, h0, h, if_true, if_false, and_self]
  · right
    refine ⟨w, hw, rfl, ?_, ?_⟩
    · rw [e_X2_has, hc]; simp -implicitDefEqProofs (disch := omega) only [wx_bd, wx_let, wx_st, wx_lit, wx_ga, wx_sa, pk_mul, nI_add, wx_le, wx_lt, wx_eq, wx_en, wx_ne', wx_nn, wx_ltn, wx_len, wx_nlt, wx_nle, wx_bz0, wx_bz1, if_pos, if_neg, wx_ite, Nat.reduceEqDiff, eq_self, if_true, if_false, not_true_eq_false, not_false_eq_true]
    · rw [e_X12_isJudge, hm]; simp -implicitDefEqProofs (disch := omega) only [wx_bd, wx_let, wx_st, wx_lit, wx_ga, wx_sa, pk_mul, nI_add, wx_le, wx_lt, wx_eq, wx_en, wx_ne', wx_nn, wx_ltn, wx_len, wx_nlt, wx_nle, wx_bz0, wx_bz1, if_pos, if_neg, wx_ite, Nat.reduceEqDiff, eq_self, if_true, if_false, not_true_eq_false, not_false_eq_true]
set_option maxHeartbeats 1000000 in
theorem wk_tri {σ τ : wg_M} {nc : Nat} (hc : σ 1 6 = nI nc) (hm : τ 0 8 = nI nc) (hn : nc ≤ 14) (x : Int32) : (f_X0_hasCase 1 x σ = some (nI 0, σ) ∧ f_X12_isTrial 0 x τ = some (nI 0, τ)) ∨ ∃ w, w < nc ∧ x = nI w ∧ f_X0_hasCase 1 (nI w) σ = some (nI 1, σ) ∧ f_X12_isTrial 0 (nI w) τ = some (nI 1, τ) := by
  rw [e_X0_hasCase, e_X12_isTrial, hc, hm]
  rcases wx_is x nc (by omega) with h | ⟨h0, h⟩ | ⟨w, hw, rfl⟩
  · left; simp only [wx_lit, h, if_true, and_self]
  · left; simp only [wx_lit, h0, h, if_true, if_false, and_self]
  · right
    refine ⟨w, hw, rfl, ?_, ?_⟩
    · rw [e_X0_hasCase, hc]; simp -implicitDefEqProofs (disch := omega) only [wx_bd, wx_let, wx_st, wx_lit, wx_ga, wx_sa, pk_mul, nI_add, wx_le, wx_lt, wx_eq, wx_en, wx_ne', wx_nn, wx_ltn, wx_len, wx_nlt, wx_nle, wx_bz0, wx_bz1, if_pos, if_neg, wx_ite, Nat.reduceEqDiff, eq_self, if_true, if_false, not_true_eq_false, not_false_eq_true]
    · rw [e_X12_isTrial, hm]; simp -implicitDefEqProofs (disch := omega) only [wx_bd, wx_let, wx_st, wx_lit, wx_ga, wx_sa, pk_mul, nI_add, wx_le, wx_lt, wx_eq, wx_en, wx_ne', wx_nn, wx_ltn, wx_len, wx_nlt, wx_nle, wx_bz0, wx_bz1, if_pos, if_neg, wx_ite, Nat.reduceEqDiff, eq_self, if_true, if_false, not_true_eq_false, not_false_eq_true]
set_option maxHeartbeats 1000000 in
theorem wR_told {σ τ : wg_M} (v : Int32) (h : wR σ τ) : wR σ (wg_u τ 0 0 v) := by
  refine wR_fr (fun _ _ _ _ _ => rfl) (fun a i q => ?_) h
  by_cases ha : a = 0
  · subst ha
    rw [wx_uk]
    apply pk_un
    intro hi
    subst hi
    simp [wLq, wLv] at q
  · exact congrFun (wx_un ha) i
set_option maxHeartbeats 1000000 in
theorem ws_state : wp_state wR := by
  intro σ τ a0 h
  have h := wR_told (nI 0) h
  simp only [e_X12_state, e_X12_state__1, e_X12_state__2, e_X12_state__3, e_X12_state__4, wx_st, wx_lit]
  generalize wg_u τ 0 0 (nI 0) = τ at h ⊢
  obtain ⟨nw, nj, nc, ⟨h1, h2, h3, h4, h5⟩, hP, hI, hD, hF⟩ := h
  refine ⟨τ 1 1, wg_u (wg_u σ 258 2 (nI 0)) 1 8 a0, wg_u (wg_u τ 1 1 a0) 0 3 (nI 0), ?_, ?_, ?_⟩
  · simp only [e_X11_state, e_X11_state__1, e_X11_state__2, e_X11_state__3, e_X5_forget, e_X5_forget__1, wx_bd, wx_let, wx_st, wx_lit, wb_draws h2]
  · simp -implicitDefEqProofs (disch := omega) only [e_X12_state, e_X12_state__1, e_X12_state__2, e_X12_state__3, e_X12_state__4, wx_bd, wx_let, wx_st, wx_lit, wx_ga, wx_sa, pk_mul, nI_add, wx_le, wx_lt, wx_eq, wx_en, wx_ne', wx_nn, wx_ltn, wx_len, wx_nlt, wx_nle, wx_bz0, wx_bz1, if_pos, if_neg, wx_ite, Nat.reduceEqDiff, eq_self, if_true, if_false, not_true_eq_false, not_false_eq_true]
  · obtain ⟨n, nx, p1, p2, p3, p4, p5, p6⟩ := hP
    refine wR_bn (nw' := nw) (nj' := nj) (nc' := nc) (σ := σ) (τ := τ) ⟨Nat.le_refl _, Nat.le_refl _, Nat.le_refl _⟩ (fun a q1 q2 q3 q4 q5 => ?_) (fun a i q q1 q2 q4 q5 q6 q7 q8 q0 => ?_) h5 hI hD hF ?_ ?_ ?_ ?_ ?_
    · simp -implicitDefEqProofs (disch := omega) only [wx_un]
    · by_cases ha : a = 0
      · subst ha
        have := q0 rfl
        simp -implicitDefEqProofs (disch := omega) only [wx_un, wx_uk, pk_un]
      · simp -implicitDefEqProofs (disch := omega) only [wx_un]
    · exact wN_fr (by simp -implicitDefEqProofs (disch := omega) only [wx_uk, wx_un, pk_us, pk_un]) (by simp -implicitDefEqProofs (disch := omega) only [wx_uk, wx_un, pk_us, pk_un]) (by simp -implicitDefEqProofs (disch := omega) only [wx_uk, wx_un, pk_us, pk_un]) h1
    · refine wB_sc (σ := σ) (r := τ 1) (τ := τ) ⟨h1.1, h1.2.1, h1.2.2.1⟩ h2 (fun a q1 q2 => ?_) ?_ ?_ ?_ ?_ ?_ (fun i q1 q2 => ?_) (fun i _ => ?_) (fun i _ => ?_) (fun i _ => ?_) (fun i _ => ?_)
      · by_cases ha : a = 258
        · omega
        · simp -implicitDefEqProofs (disch := omega) only [wx_uk, wx_un, pk_us, pk_un]
      · simp -implicitDefEqProofs (disch := omega) only [wx_uk, wx_un, pk_us, pk_un]
      · simp -implicitDefEqProofs (disch := omega) only [wx_uk, wx_un, pk_us, pk_un, wb_year h2]
      · simp -implicitDefEqProofs (disch := omega) only [wx_uk, wx_un, pk_us, pk_un]
      · simp -implicitDefEqProofs (disch := omega) only [wx_uk, wx_un, pk_us, pk_un, wb_lines h2]
      · simp -implicitDefEqProofs (disch := omega) only [wx_uk, wx_un, pk_us, pk_un]; exact h2.1.2.2.2.2.2.2
      all_goals simp -implicitDefEqProofs (disch := omega) only [wx_uk, wx_un, pk_us, pk_un]
    · exact wY_fr (by simp -implicitDefEqProofs (disch := omega) only [wx_uk, wx_un, pk_us, pk_un]) h3
    · exact wPg_fr (fun a q1 q2 => by simp -implicitDefEqProofs (disch := omega) only [wx_uk, wx_un, pk_us, pk_un]) (fun i _ => by simp -implicitDefEqProofs (disch := omega) only [wx_uk, wx_un, pk_us, pk_un]) h4
    · exact wP_0 p2 (by simp -implicitDefEqProofs (disch := omega) only [wx_uk, wx_un, pk_us, pk_un]; exact p4) (by simp -implicitDefEqProofs (disch := omega) only [wx_uk, wx_un, pk_us, pk_un]) (by simp -implicitDefEqProofs (disch := omega) only [wx_uk, wx_un, pk_us, pk_un])
set_option maxHeartbeats 1000000 in
theorem wo_t0 : (nI 0).toInt = 0 := by decide
set_option maxHeartbeats 1000000 in
theorem wo_t1 : (nI 1).toInt = 1 := by decide
set_option maxHeartbeats 1000000 in
theorem ws_fault : wp_fault wR := by
  intro σ τ a0 h
  have h := wR_told (nI 0) h
  simp only [e_X12_fault, e_X12_fault__1, wx_st, wx_lit]
  generalize wg_u τ 0 0 (nI 0) = τ at h ⊢
  obtain ⟨nw, nj, nc, hW, hP, hI, hD, hF⟩ := id h
  simp only [e_X11_fault, wg_lz, hD.2.1, hD.2.2.1]
  by_cases c0 : a0 = nI 0
  · subst c0
    exact ⟨τ 0 35, σ, τ, by simp only [wo_t0, if_true], by simp only [if_true], h⟩
  · by_cases c1 : a0 = nI 1
    · subst c1
      exact ⟨τ 0 36, σ, τ, by simp only [wo_t1, Int.reduceEq, if_true, if_false], by simp only [c0, if_true, if_false], h⟩
    · have d0 : ¬ a0.toInt = 0 := fun h => c0 (Int32.toInt_inj.mp (by rw [h]; rfl))
      have d1 : ¬ a0.toInt = 1 := fun h => c1 (Int32.toInt_inj.mp (by rw [h]; rfl))
      exact ⟨-nI 1, σ, τ, by simp only [d0, d1, if_false, wx_lit], by simp only [c0, c1, if_false], h⟩

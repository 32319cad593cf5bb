/-! lines of the other texts -/
def pN (a i : Nat) : Bool := pS a i || (a == 274 && i == 4) || a == 275 || a == 276 || a == 277 || a == 278
def qN (a i : Nat) : Bool := qS a i || (a == 19 && decide (48 ≤ i)) || (a == 20 && decide (64 ≤ i)) || (a == 21 && decide (8 ≤ i))
set_option maxHeartbeats 1000000 in
theorem pSN (a i : Nat) (h : pS a i = true) : pN a i = true := by simp [pN, h]
set_option maxHeartbeats 1000000 in
theorem qSN (a i : Nat) (h : qS a i = true) : qN a i = true := by simp [qN, h]
set_option maxHeartbeats 1000000 in
theorem wE_SN {σ τ σ' τ' : wg_M} (h : wE pS qS σ τ σ' τ') : wE pN qN σ τ σ' τ' := ⟨wFx_m (wU8_m pSN) h.1, wFx_m qSN h.2.1, h.2.2⟩
set_option maxHeartbeats 1000000 in
theorem wx_upto {n x : Nat} (hx : x < 100000) (h : ¬ nI n - nI 1 < nI x) (hn : n < 100000) : x < n := by
  rcases n with _ | n
  · rw [wx_m1] at h
    exact absurd (by rw [wx_nlt (by omega) (by omega) (by omega)]; trivial) h
  · rw [wx_sub1, wx_lt (by omega) (by omega)] at h
    omega
section NU
variable {M : Nat} {TS TV TF : Nat → Nat} {RM : Nat → wg_M → Prop} {j : Nat} {σ τ : wg_M}
set_option maxHeartbeats 1000000 in
theorem wl_nbr (hO : wTo M TS TV) (hI : wTi M TS TV TF RM) (hc : wTc M TS TV TF j σ) (hm : RM j τ) (lo hi : Int32) : (∃ τ', TS j = 3 ∧ j < M ∧ TV j ≤ 9999 ∧ ¬ nI (TV j) < lo ∧ ¬ hi < nI (TV j) ∧ f_X6_readNumber 260 lo hi σ = some (nI (TV j), wg_u σ 260 7 (nI (j + 1))) ∧ f_X12_readNumber 0 lo hi τ = some (nI (TV j), τ') ∧ RM (j + 1) τ' ∧ ∀ a i, ¬ (a = 0 ∧ 16 ≤ i ∧ i ≤ 19) → τ' a i = τ a i) ∨ (∃ σ' τ', f_X6_readNumber 260 lo hi σ = some (-nI 1, σ') ∧ f_X12_readNumber 0 lo hi τ = some (-nI 1, τ') ∧ wE pS qS σ τ σ' τ') := by
  obtain ⟨hM, hM0, hv⟩ := id hO
  obtain ⟨jM, h6, h7, hk⟩ := id hc
  obtain ⟨k1, k2, k3⟩ := hk j jM
  obtain ⟨r1, r2, r3⟩ := hI.1 j τ hm
  have hvj := hv j jM
  have kl := wKd_lt hvj
  by_cases c3 : TS j = 3
  · have jlt := wTo_lt hO jM (by omega)
    have e2 := k2 c3
    have r2 := r2 (by omega)
    rw [(wKd_n hvj).2 c3] at k1
    rw [c3] at r1
    have x9 : TV j ≤ 9999 := by unfold wTv at hvj; omega
    have fl := wl_fail hO hc (nI 2)
    have er := wl_errs (TF := TF) (j := j) r3 (nI 2)
    by_cases q1 : nI (TV j) < lo
    · exact Or.inr ⟨_, _, by simp -implicitDefEqProofs (disch := omega) only [e_X6_readNumber, e_X6_readNumber__1, e_X6_readNumber__2, e_X6_readNumber__3, e_X6_readNumber__4, e_X6_readNumber__5, e_X6_readNumber__6, e_X6_readNumber__7, e_X11_within, h7, k1, e2, q1, fl, wx_bd, wx_let, wx_st, wx_lit, wx_ga, wx_sa, pk_mul, nI_add, wx_le, wx_lt, wx_eq, wx_en, wx_ne', wx_nn, wx_ltn, wx_len, wx_nlt, wx_nle, wx_bz0, wx_bz1, if_pos, if_neg, wx_ite, Nat.reduceEqDiff, eq_self, if_true, if_false, not_true_eq_false, not_false_eq_true], by simp -implicitDefEqProofs (disch := omega) only [e_X12_readNumber, e_X12_readNumber__1, e_X12_readNumber__2, e_X12_readNumber__3, e_X12_readNumber__4, e_X12_readNumber__5, e_X12_isIn, r1, r2, q1, er, wx_bd, wx_let, wx_st, wx_lit, wx_ga, wx_sa, pk_mul, nI_add, wx_le, wx_lt, wx_eq, wx_en, wx_ne', wx_nn, wx_ltn, wx_len, wx_nlt, wx_nle, wx_bz0, wx_bz1, if_pos, if_neg, wx_ite, Nat.reduceEqDiff, eq_self, if_true, if_false, not_true_eq_false, not_false_eq_true], wE_mk (wFx_r _ _) (wFx_r _ _) rfl rfl rfl rfl (nI 2) (nI (TF j))⟩
    · by_cases q2 : hi < nI (TV j)
      · exact Or.inr ⟨_, _, by simp -implicitDefEqProofs (disch := omega) only [e_X6_readNumber, e_X6_readNumber__1, e_X6_readNumber__2, e_X6_readNumber__3, e_X6_readNumber__4, e_X6_readNumber__5, e_X6_readNumber__6, e_X6_readNumber__7, e_X11_within, h7, k1, e2, q1, q2, fl, wx_bd, wx_let, wx_st, wx_lit, wx_ga, wx_sa, pk_mul, nI_add, wx_le, wx_lt, wx_eq, wx_en, wx_ne', wx_nn, wx_ltn, wx_len, wx_nlt, wx_nle, wx_bz0, wx_bz1, if_pos, if_neg, wx_ite, Nat.reduceEqDiff, eq_self, if_true, if_false, not_true_eq_false, not_false_eq_true], by simp -implicitDefEqProofs (disch := omega) only [e_X12_readNumber, e_X12_readNumber__1, e_X12_readNumber__2, e_X12_readNumber__3, e_X12_readNumber__4, e_X12_readNumber__5, e_X12_isIn, r1, r2, q1, q2, er, wx_bd, wx_let, wx_st, wx_lit, wx_ga, wx_sa, pk_mul, nI_add, wx_le, wx_lt, wx_eq, wx_en, wx_ne', wx_nn, wx_ltn, wx_len, wx_nlt, wx_nle, wx_bz0, wx_bz1, if_pos, if_neg, wx_ite, Nat.reduceEqDiff, eq_self, if_true, if_false, not_true_eq_false, not_false_eq_true], wE_mk (wFx_r _ _) (wFx_r _ _) rfl rfl rfl rfl (nI 2) (nI (TF j))⟩
      · obtain ⟨τ1, t1, t2, t3⟩ := hI.2.2 j τ jlt hm
        have sb : nI (j + 1) - nI 1 = nI j := wx_sub1 _
        exact Or.inl ⟨τ1, c3, jlt, x9, q1, q2, by simp -implicitDefEqProofs (disch := omega) only [e_X6_readNumber, e_X6_readNumber__1, e_X6_readNumber__2, e_X6_readNumber__3, e_X6_readNumber__4, e_X6_readNumber__5, e_X6_readNumber__6, e_X6_readNumber__7, e_X11_within, h7, k1, e2, q1, q2, sb, wx_uk, wx_un, pk_us, pk_un, wx_bd, wx_let, wx_st, wx_lit, wx_ga, wx_sa, pk_mul, nI_add, wx_le, wx_lt, wx_eq, wx_en, wx_ne', wx_nn, wx_ltn, wx_len, wx_nlt, wx_nle, wx_bz0, wx_bz1, if_pos, if_neg, wx_ite, Nat.reduceEqDiff, eq_self, if_true, if_false, not_true_eq_false, not_false_eq_true], by simp -implicitDefEqProofs (disch := omega) only [e_X12_readNumber, e_X12_readNumber__1, e_X12_readNumber__2, e_X12_readNumber__3, e_X12_readNumber__4, e_X12_readNumber__5, e_X12_isIn, r1, r2, q1, q2, t1, wx_bd, wx_let, wx_st, wx_lit, wx_ga, wx_sa, pk_mul, nI_add, wx_le, wx_lt, wx_eq, wx_en, wx_ne', wx_nn, wx_ltn, wx_len, wx_nlt, wx_nle, wx_bz0, wx_bz1, if_pos, if_neg, wx_ite, Nat.reduceEqDiff, eq_self, if_true, if_false, not_true_eq_false, not_false_eq_true], t2, t3⟩
  · have kn : wKd (TS j) (TV j) ≠ 2 := fun q => c3 ((wKd_n hvj).1 q)
    have fl := wl_fail hO hc (nI 1)
    have er := wl_errs (TF := TF) (j := j) r3 (nI 1)
    have ts : TS j < 100 := by unfold wTv at hvj; omega
    generalize wKd (TS j) (TV j) = K at *
    exact Or.inr ⟨_, _, by simp -implicitDefEqProofs (disch := omega) only [e_X6_readNumber, e_X6_readNumber__1, e_X6_readNumber__2, e_X6_readNumber__3, e_X6_readNumber__4, e_X6_readNumber__5, e_X6_readNumber__6, e_X6_readNumber__7, h7, k1, fl, wx_bd, wx_let, wx_st, wx_lit, wx_ga, wx_sa, pk_mul, nI_add, wx_le, wx_lt, wx_eq, wx_en, wx_ne', wx_nn, wx_ltn, wx_len, wx_nlt, wx_nle, wx_bz0, wx_bz1, if_pos, if_neg, wx_ite, Nat.reduceEqDiff, eq_self, if_true, if_false, not_true_eq_false, not_false_eq_true], by simp -implicitDefEqProofs (disch := omega) only [e_X12_readNumber, e_X12_readNumber__1, e_X12_readNumber__2, e_X12_readNumber__3, e_X12_readNumber__4, e_X12_readNumber__5, r1, er, wx_bd, wx_let, wx_st, wx_lit, wx_ga, wx_sa, pk_mul, nI_add, wx_le, wx_lt, wx_eq, wx_en, wx_ne', wx_nn, wx_ltn, wx_len, wx_nlt, wx_nle, wx_bz0, wx_bz1, if_pos, if_neg, wx_ite, Nat.reduceEqDiff, eq_self, if_true, if_false, not_true_eq_false, not_false_eq_true], wE_mk (wFx_r _ _) (wFx_r _ _) rfl rfl rfl rfl (nI 1) (nI (TF j))⟩
set_option maxHeartbeats 1000000 in
/-- a word and a number -/
theorem wl_wn (hO : wTo M TS TV) (hI : wTi M TS TV TF RM) (hc : wTc M TS TV TF j σ) (hm : RM j τ) {w : Nat} (hw : w < 26) (lo hi : Int32) : (∃ x σ' τ', TS j = 2 ∧ TV j = w ∧ x ≤ 9999 ∧ ¬ nI x < lo ∧ ¬ hi < nI x ∧ f_X6_expect 260 (nI (wKd 2 w)) σ = some (nI 1, wg_u σ 260 7 (nI (j + 1))) ∧ f_X6_readNumber 260 lo hi (wg_u σ 260 7 (nI (j + 1))) = some (nI x, σ') ∧ f_X12_readTold 0 (nI w) lo hi τ = some (nI x, τ') ∧ wTc M TS TV TF (j + 2) σ' ∧ RM (j + 2) τ' ∧ (∀ a i, ¬ (a = 260 ∧ i = 7) → σ' a i = σ a i) ∧ ∀ a i, ¬ (a = 0 ∧ 16 ≤ i ∧ i ≤ 19) → τ' a i = τ a i) ∨ (∃ σ' τ', ¬ (TS j = 2 ∧ TV j = w) ∧ f_X6_expect 260 (nI (wKd 2 w)) σ = some (nI 0, σ') ∧ f_X12_readTold 0 (nI w) lo hi τ = some (-nI 1, τ') ∧ wE pS qS σ τ σ' τ') ∨ (∃ σ' τ', TS j = 2 ∧ TV j = w ∧ f_X6_expect 260 (nI (wKd 2 w)) σ = some (nI 1, wg_u σ 260 7 (nI (j + 1))) ∧ f_X6_readNumber 260 lo hi (wg_u σ 260 7 (nI (j + 1))) = some (-nI 1, σ') ∧ f_X12_readTold 0 (nI w) lo hi τ = some (-nI 1, τ') ∧ wE pS qS σ τ σ' τ') := by
  have jM := hc.1
  have hvj := hO.2.2 j jM
  obtain ⟨r1, r2, r3⟩ := hI.1 j τ hm
  have kw : wKd 2 w < 300 := wKd_lt (s := 2) (v := w) (Or.inr (Or.inr (Or.inl ⟨rfl, hw⟩)))
  by_cases c : TS j = 2 ∧ TV j = w
  · have jlt := wTo_lt hO jM (by omega)
    have ex := wl_exp1 hO hc ((wKd_w hvj hw).2 c)
    have y := wl_wd1 r1 r2 c
    obtain ⟨τ1, t1, t2, t3⟩ := hI.2.2 j τ jlt hm
    have hc1 := wTc_nx hc jlt
    rcases wl_nbr hO hI hc1 t2 lo hi with ⟨τ2, a1, a2, a3, a4, a5, a6, a7, a8, a9⟩ | ⟨σ2, τ2, a1, a2, a3⟩
    · exact Or.inl ⟨TV (j + 1), _, τ2, c.1, c.2, a3, a4, a5, ex, a6, by simp -implicitDefEqProofs (disch := omega) only [e_X12_readTold, e_X12_readTold__1, e_X12_readTold__2, e_X12_readTold__3, e_X12_readTold__4, y, t1, a7, wx_bd, wx_let, wx_st, wx_lit, wx_ga, wx_sa, pk_mul, nI_add, wx_le, wx_lt, wx_eq, wx_en, wx_ne', wx_nn, wx_ltn, wx_len, wx_nlt, wx_nle, wx_bz0, wx_bz1, if_pos, if_neg, wx_ite, Nat.reduceEqDiff, eq_self, if_true, if_false, not_true_eq_false, not_false_eq_true], wTc_nx hc1 a2, a8, fun a i q => by rw [wx_ur, if_neg q, wx_ur, if_neg q], fun a i q => by rw [a9 a i q, t3 a i q]⟩
    · exact Or.inr (Or.inr ⟨σ2, τ2, c.1, c.2, ex, a1, by simp -implicitDefEqProofs (disch := omega) only [e_X12_readTold, e_X12_readTold__1, e_X12_readTold__2, e_X12_readTold__3, e_X12_readTold__4, y, t1, a2, wx_bd, wx_let, wx_st, wx_lit, wx_ga, wx_sa, pk_mul, nI_add, wx_le, wx_lt, wx_eq, wx_en, wx_ne', wx_nn, wx_ltn, wx_len, wx_nlt, wx_nle, wx_bz0, wx_bz1, if_pos, if_neg, wx_ite, Nat.reduceEqDiff, eq_self, if_true, if_false, not_true_eq_false, not_false_eq_true], wE_t (wFx_at σ _) (wFx_rd t3) a3⟩)
  · have ex := wl_exp0 hO hc kw (fun q => c ((wKd_w hvj hw).1 q))
    have y := wl_wd0 hO jM (show w < 100000 by omega) r1 r2 c
    have er := wl_errs (TF := TF) (j := j) r3 (nI 1)
    exact Or.inr (Or.inl ⟨_, _, c, ex, by simp -implicitDefEqProofs (disch := omega) only [e_X12_readTold, e_X12_readTold__1, e_X12_readTold__2, e_X12_readTold__3, e_X12_readTold__4, y, er, wx_bd, wx_let, wx_st, wx_lit, wx_ga, wx_sa, pk_mul, nI_add, wx_le, wx_lt, wx_eq, wx_en, wx_ne', wx_nn, wx_ltn, wx_len, wx_nlt, wx_nle, wx_bz0, wx_bz1, if_pos, if_neg, wx_ite, Nat.reduceEqDiff, eq_self, if_true, if_false, not_true_eq_false, not_false_eq_true], wE_mk (wFx_r _ _) (wFx_r _ _) rfl rfl rfl rfl (nI 1) (nI (TF j))⟩)
set_option maxHeartbeats 1000000 in
/-- the mark at a line's end -/
theorem wl_mk (hO : wTo M TS TV) (hI : wTi M TS TV TF RM) (hc : wTc M TS TV TF j σ) (hm : RM j τ) : (∃ τ', f_X6_expect 260 (nI 59) σ = some (nI 1, wg_u σ 260 7 (nI (j + 1))) ∧ f_X12_readMark 0 (nI 59) τ = some (nI 0, τ') ∧ wTc M TS TV TF (j + 1) (wg_u σ 260 7 (nI (j + 1))) ∧ RM (j + 1) τ' ∧ ∀ a i, ¬ (a = 0 ∧ 16 ≤ i ∧ i ≤ 19) → τ' a i = τ a i) ∨ (∃ σ' τ', f_X6_expect 260 (nI 59) σ = some (nI 0, σ') ∧ f_X12_readMark 0 (nI 59) τ = some (-nI 1, τ') ∧ wE pS qS σ τ σ' τ') := by
  have jM := hc.1
  have hvj := hO.2.2 j jM
  obtain ⟨r1, r2, r3⟩ := hI.1 j τ hm
  by_cases c : TS j = 4 ∧ TV j = 59
  · have jlt := wTo_lt hO jM (by omega)
    have ex := wl_exp1 hO hc ((wKd_s hvj (c := 59) (by omega) (by omega)).2 c)
    have y := wl_sg1 r1 r2 c
    obtain ⟨τ1, t1, t2, t3⟩ := hI.2.2 j τ jlt hm
    exact Or.inl ⟨τ1, ex, by simp -implicitDefEqProofs (disch := omega) only [e_X12_readMark, e_X12_readMark__1, e_X12_readMark__2, e_X12_readMark__3, y, t1, wx_bd, wx_let, wx_st, wx_lit, wx_ga, wx_sa, pk_mul, nI_add, wx_le, wx_lt, wx_eq, wx_en, wx_ne', wx_nn, wx_ltn, wx_len, wx_nlt, wx_nle, wx_bz0, wx_bz1, if_pos, if_neg, wx_ite, Nat.reduceEqDiff, eq_self, if_true, if_false, not_true_eq_false, not_false_eq_true], wTc_nx hc jlt, t2, t3⟩
  · have ex := wl_exp0 hO hc (show 59 < 300 by omega) (fun q => c ((wKd_s hvj (by omega) (by omega)).1 q))
    have y := wl_sg0 hO jM (show 59 < 100000 by omega) r1 r2 c
    have er := wl_errs (TF := TF) (j := j) r3 (nI 1)
    exact Or.inr ⟨_, _, ex, by simp -implicitDefEqProofs (disch := omega) only [e_X12_readMark, e_X12_readMark__1, e_X12_readMark__2, e_X12_readMark__3, y, er, wx_bd, wx_let, wx_st, wx_lit, wx_ga, wx_sa, pk_mul, nI_add, wx_le, wx_lt, wx_eq, wx_en, wx_ne', wx_nn, wx_ltn, wx_len, wx_nlt, wx_nle, wx_bz0, wx_bz1, if_pos, if_neg, wx_ite, Nat.reduceEqDiff, eq_self, if_true, if_false, not_true_eq_false, not_false_eq_true], wE_mk (wFx_r _ _) (wFx_r _ _) rfl rfl rfl rfl (nI 1) (nI (TF j))⟩
set_option maxHeartbeats 1000000 in
/-- a line is added, the class -/
theorem wl_add {n : Nat} (hn : n < 16) (h4 : σ 274 4 = nI n) (a b c e : Int32) : f_X4_add 274 a b c e σ = some (nI 0, wg_u (wg_u (wg_u (wg_u (wg_u σ 275 n a) 276 n b) 277 n c) 278 n e) 274 4 (nI (n + 1))) := by
  have e16 : Int32.ofNat 16 = nI 16 := rfl
  simp -implicitDefEqProofs (disch := omega) only [e_X4_add_274, e_X4_add_274, e_X4_add_274__1, e_X4_add_274__2, e_X4_add_274__3, e_X4_add_274__4, e_X4_add_274__5, e16, h4, wx_uk, wx_un, pk_us, pk_un, wx_bd, wx_let, wx_st, wx_lit, wx_ga, wx_sa, pk_mul, nI_add, wx_le, wx_lt, wx_eq, wx_en, wx_ne', wx_nn, wx_ltn, wx_len, wx_nlt, wx_nle, wx_bz0, wx_bz1, if_pos, if_neg, wx_ite, Nat.reduceEqDiff, eq_self, if_true, if_false, not_true_eq_false, not_false_eq_true]
end NU

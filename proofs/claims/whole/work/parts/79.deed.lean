/-! weights, the youngest, deaths, years -/
set_option maxHeartbeats 1000000 in
theorem wx_wm : ∀ g, g ≤ 99 → 1 ≤ g → (wh_h (nI g + -nI 1) (nI 1) (nI 99) = (if nI 1 ≤ nI g - nI 1 then nI g - nI 1 else nI 1)) ∧ ∃ g', g' ≤ 99 ∧ 1 ≤ g' ∧ wh_h (nI g + -nI 1) (nI 1) (nI 99) = nI g' := by
  have key : ∀ g, g < 100 → 1 ≤ g → (wh_h (nI g + -nI 1) (nI 1) (nI 99) = (if nI 1 ≤ nI g - nI 1 then nI g - nI 1 else nI 1)) ∧ wh_h (nI g + -nI 1) (nI 1) (nI 99) = nI (if g ≤ 1 then 1 else g - 1) := by decide +kernel
  intro g h1 h2
  obtain ⟨a, b⟩ := key g (by omega) h2
  refine ⟨a, _, ?_, ?_, b⟩ <;> split <;> omega
set_option maxHeartbeats 1000000 in
theorem wx_wp : ∀ g, g ≤ 99 → 1 ≤ g → (wh_h (nI g + nI 1) (nI 1) (nI 99) = (if nI g + nI 1 ≤ nI 99 then nI g + nI 1 else nI 99)) ∧ ∃ g', g' ≤ 99 ∧ 1 ≤ g' ∧ wh_h (nI g + nI 1) (nI 1) (nI 99) = nI g' := by
  have key : ∀ g, g < 100 → 1 ≤ g → (wh_h (nI g + nI 1) (nI 1) (nI 99) = (if nI g + nI 1 ≤ nI 99 then nI g + nI 1 else nI 99)) ∧ wh_h (nI g + nI 1) (nI 1) (nI 99) = nI (if 98 ≤ g then 99 else g + 1) := by decide +kernel
  intro g h1 h2
  obtain ⟨a, b⟩ := key g (by omega) h2
  refine ⟨a, _, ?_, ?_, b⟩ <;> split <;> omega
section YE
variable {th : Bool} {nw nj nc : Nat}
set_option maxHeartbeats 1000000 in
/-- one weight is changed on both sides -/
theorem wl_setG {σ τ : wg_M} (h : wX th nw nj nc σ τ) {w k i g : Nat} (hw : w < nw) (hk : τ 1 (67 + w) = nI k) (hk8 : k ≤ 8) (hi : i < k) (hg : g ≤ 99) (hg1 : 1 ≤ g) : wX th nw nj nc (wg_u σ 10 (w * 8 + i) (nI g)) (wg_u τ 1 (75 + 24 * w + 3 * i + 2) (nI g)) ∧ wFr σ (wg_u σ 10 (w * 8 + i) (nI g)) τ (wg_u τ 1 (75 + 24 * w + 3 * i + 2) (nI g)) := by
  have hN := h.1
  have h2 := h.2.1
  have n1 := hN.1
  have gc : wGc σ (wg_u σ 10 (w * 8 + i) (nI g)) := fun a ha => wx_un (by omega)
  have gm : wGm τ (wg_u τ 1 (75 + 24 * w + 3 * i + 2) (nI g)) := ⟨fun a ha => wx_un ha, fun x hx => by simp -implicitDefEqProofs (disch := omega) only [wx_uk, wx_un, pk_us, pk_un]⟩
  refine wX_g h gc gm (wB_wig (w := w) ⟨hN.1, hN.2.1, hN.2.2.1⟩ h2 gc gm (fun a x q1 q2 q3 => by rw [wx_un (by omega)]) (fun a x j q1 q2 q3 q4 => ?_) (fun x y q1 q2 q3 => by simp -implicitDefEqProofs (disch := omega) only [wx_uk, wx_un, pk_us, pk_un]) ?_)
  · by_cases ca : a = 10
    · subst ca; rw [wx_uk, pk_un (by omega)]
    · rw [wx_un ca]
  · obtain ⟨c1, c2, c3, c4, c5, -⟩ := h2.2.2.1 w hw
    have hU : ∀ x, x < k → wU (wg_u σ 10 (w * 8 + i) (nI g)) 1 (wg_u τ 1 (75 + 24 * w + 3 * i + 2) (nI g) 1) w x := fun x hx => by
      have := wb_ru h2 hw hk hk8 hx
      unfold wU at this ⊢
      by_cases cx : x = i
      · subst cx
        simp -implicitDefEqProofs (disch := omega) only [Nat.reduceAdd, wx_uk, wx_un, pk_us, pk_un] at this ⊢
        exact ⟨this.1, this.2.1, trivial, this.2.2.2.1, this.2.2.2.2.1, g, hg1, hg, rfl⟩
      · simp -implicitDefEqProofs (disch := omega) only [Nat.reduceAdd, wx_uk, wx_un, pk_us, pk_un] at this ⊢
        exact this
    refine ⟨?_, ?_, ?_, ?_, ?_, k, hk8, ?_, hU⟩ <;> simp -implicitDefEqProofs (disch := omega) only [Nat.reduceAdd, wx_uk, wx_un, pk_us, pk_un] <;> assumption
set_option maxHeartbeats 1000000 in
theorem wl_brush_l {w k : Nat} (hw : w < nw) (hk8 : k ≤ 8) : ∀ d i n m σ τ, wX th nw nj nc σ τ → τ 1 (67 + w) = nI k → i + d = k → d < n → d < m → ∃ σ' τ', f_X9_weigh_2 n 2 (nI w) (-nI 1) (nI i) σ = some (nI 0, σ') ∧ f_X12_brushes_28 m 0 (nI w) (nI i) τ = some (nI 0, τ') ∧ wX th nw nj nc σ' τ' ∧ wFr σ σ' τ τ' := by
  have hle : nI 1 ≤ nI 99 := by decide
  intro d
  induction d with
  | zero =>
    intro i n m σ τ h hk hi hn hm
    obtain ⟨n, rfl⟩ : ∃ k, n = k + 1 := ⟨n - 1, by omega⟩
    obtain ⟨m, rfl⟩ : ∃ k, m = k + 1 := ⟨m - 1, by omega⟩
    have e7 := wb_rules h.2.1 hw
    have n1 := h.1.1
    rw [hk] at e7
    refine ⟨σ, τ, ?_, ?_, h, wFr_rfl _ _⟩
    · simp -implicitDefEqProofs (disch := omega) only [e_X9_weigh_2, e_X9_weigh_2__1, e_X9_weigh_2__2, e_X9_weigh_2__3, e_X9_weigh_2__4, e_X9_weigh_2__5, e_X9_weigh_2__6, e7, wx_bd, wx_let, wx_st, wx_lit, wx_ga, wx_sa, pk_mul, nI_add, wx_le, wx_lt, wx_eq, wx_en, wx_ne', wx_nn, wx_ltn, wx_len, wx_nlt, wx_nle, wx_bz0, wx_bz1, if_pos, if_neg, wx_ite, Nat.reduceEqDiff, eq_self, if_true, if_false, not_true_eq_false, not_false_eq_true]
    · simp -implicitDefEqProofs (disch := omega) only [e_X12_brushes_28, e_X12_brushes_28__1, e_X12_brushes_28__2, e_X12_brushes_28__3, e_X12_brushes_28__4, e_X12_brushes_28__5, e_X12_brushes_28__6, e_X12_brushes_28__7, hk, wx_bd, wx_let, wx_st, wx_lit, wx_ga, wx_sa, pk_mul, nI_add, wx_le, wx_lt, wx_eq, wx_en, wx_ne', wx_nn, wx_ltn, wx_len, wx_nlt, wx_nle, wx_bz0, wx_bz1, if_pos, if_neg, wx_ite, Nat.reduceEqDiff, eq_self, if_true, if_false, not_true_eq_false, not_false_eq_true]
  | succ d ih =>
    intro i n m σ τ h hk hi hn hm
    obtain ⟨n, rfl⟩ : ∃ k, n = k + 1 := ⟨n - 1, by omega⟩
    obtain ⟨m, rfl⟩ : ∃ k, m = k + 1 := ⟨m - 1, by omega⟩
    have e7 := wb_rules h.2.1 hw
    have n1 := h.1.1
    rw [hk] at e7
    have hik : i < k := by omega
    obtain ⟨u1, u2, u3, u4, u5, g, g1, g2, g3⟩ := wb_ru h.2.1 hw hk hk8 hik
    have u3 : σ 10 (w * 8 + i) = nI g := u3.trans g3
    obtain ⟨a1, g', a2, a3, a4⟩ := wx_wm g g2 g1
    obtain ⟨b1, b2⟩ := wl_setG h hw hk hk8 hik a2 a3
    obtain ⟨σ', τ', r1, r2, r3, r4⟩ := ih (i + 1) n m _ _ b1 (by simp -implicitDefEqProofs (disch := omega) only [wx_uk, wx_un, pk_us, pk_un]; exact hk) (by omega) (by omega) (by omega)
    refine ⟨σ', τ', ?_, ?_, r3, wFr_tr b2 r4⟩
    · simp -implicitDefEqProofs (disch := omega) only [e_X9_weigh_2, e_X9_weigh_2__1, e_X9_weigh_2__2, e_X9_weigh_2__3, e_X9_weigh_2__4, e_X9_weigh_2__5, e_X9_weigh_2__6, e7, u3, wh_hC hle, a4, wx_bd, wx_let, wx_st, wx_lit, wx_ga, wx_sa, pk_mul, nI_add, wx_le, wx_lt, wx_eq, wx_en, wx_ne', wx_nn, wx_ltn, wx_len, wx_nlt, wx_nle, wx_bz0, wx_bz1, if_pos, if_neg, wx_ite, Nat.reduceEqDiff, eq_self, if_true, if_false, not_true_eq_false, not_false_eq_true]
      exact r1
    · rw [a4] at a1
      have a1' := a1.symm
      simp -implicitDefEqProofs (disch := omega) only [e_X12_brushes_28, e_X12_brushes_28__1, e_X12_brushes_28__2, e_X12_brushes_28__3, e_X12_brushes_28__4, e_X12_brushes_28__5, e_X12_brushes_28__6, e_X12_brushes_28__7, e_X12_ruleAt, hk, g3, wl_greater, a1', wx_bd, wx_let, wx_st, wx_lit, wx_ga, wx_sa, pk_mul, nI_add, wx_le, wx_lt, wx_eq, wx_en, wx_ne', wx_nn, wx_ltn, wx_len, wx_nlt, wx_nle, wx_bz0, wx_bz1, if_pos, if_neg, wx_ite, Nat.reduceEqDiff, eq_self, if_true, if_false, not_true_eq_false, not_false_eq_true]
      exact r2
set_option maxHeartbeats 1000000 in
theorem wl_wear_l {w k : Nat} (hw : w < nw) (hk8 : k ≤ 8) : ∀ d i n m σ τ, wX th nw nj nc σ τ → τ 1 (67 + w) = nI k → (∃ j, j < nj ∧ τ 1 (13 + j) - nI 1 = nI w) → i + d = k → d < n → d < m → ∃ σ' τ', f_X9_weigh_2 n 2 (nI w) (nI 1) (nI i) σ = some (nI 0, σ') ∧ f_X12_wears_83 m 0 (nI w) (nI i) τ = some (nI 0, τ') ∧ wX th nw nj nc σ' τ' ∧ wFr σ σ' τ τ' := by
  have hle : nI 1 ≤ nI 99 := by decide
  intro d
  induction d with
  | zero =>
    intro i n m σ τ h hk hj hi hn hm
    obtain ⟨n, rfl⟩ : ∃ k, n = k + 1 := ⟨n - 1, by omega⟩
    obtain ⟨m, rfl⟩ : ∃ k, m = k + 1 := ⟨m - 1, by omega⟩
    have e7 := wb_rules h.2.1 hw
    have n1 := h.1.1
    rw [hk] at e7
    refine ⟨σ, τ, ?_, ?_, h, wFr_rfl _ _⟩
    · simp -implicitDefEqProofs (disch := omega) only [e_X9_weigh_2, e_X9_weigh_2__1, e_X9_weigh_2__2, e_X9_weigh_2__3, e_X9_weigh_2__4, e_X9_weigh_2__5, e_X9_weigh_2__6, e7, wx_bd, wx_let, wx_st, wx_lit, wx_ga, wx_sa, pk_mul, nI_add, wx_le, wx_lt, wx_eq, wx_en, wx_ne', wx_nn, wx_ltn, wx_len, wx_nlt, wx_nle, wx_bz0, wx_bz1, if_pos, if_neg, wx_ite, Nat.reduceEqDiff, eq_self, if_true, if_false, not_true_eq_false, not_false_eq_true]
    · simp -implicitDefEqProofs (disch := omega) only [e_X12_wears_83, e_X12_wears_83__1, e_X12_wears_83__2, e_X12_wears_83__3, e_X12_wears_83__4, e_X12_wears_83__5, e_X12_wears_83__6, e_X12_wears_83__7, e_X12_wears_83__8, hk, wx_bd, wx_let, wx_st, wx_lit, wx_ga, wx_sa, pk_mul, nI_add, wx_le, wx_lt, wx_eq, wx_en, wx_ne', wx_nn, wx_ltn, wx_len, wx_nlt, wx_nle, wx_bz0, wx_bz1, if_pos, if_neg, wx_ite, Nat.reduceEqDiff, eq_self, if_true, if_false, not_true_eq_false, not_false_eq_true]
  | succ d ih =>
    intro i n m σ τ h hk hj hi hn hm
    obtain ⟨n, rfl⟩ : ∃ k, n = k + 1 := ⟨n - 1, by omega⟩
    obtain ⟨m, rfl⟩ : ∃ k, m = k + 1 := ⟨m - 1, by omega⟩
    have e7 := wb_rules h.2.1 hw
    have n1 := h.1.1
    have n2 := h.1.2.1
    rw [hk] at e7
    have hik : i < k := by omega
    obtain ⟨r, -, w2, w3⟩ := wl_wearer h.2.1 h.1 (nI w)
    obtain ⟨j, hj1, hj2⟩ := hj
    rcases w3 with ⟨-, w4⟩ | ⟨q, hq, rfl, -⟩
    · exact absurd hj2 (w4 j hj1)
    obtain ⟨u1, u2, u3, u4, u5, g, g1, g2, g3⟩ := wb_ru h.2.1 hw hk hk8 hik
    have u3 : σ 10 (w * 8 + i) = nI g := u3.trans g3
    obtain ⟨a1, g', a2, a3, a4⟩ := wx_wp g g2 g1
    obtain ⟨b1, b2⟩ := wl_setG h hw hk hk8 hik a2 a3
    obtain ⟨σ', τ', r1, r2, r3, r4⟩ := ih (i + 1) n m _ _ b1 (by simp -implicitDefEqProofs (disch := omega) only [wx_uk, wx_un, pk_us, pk_un]; exact hk) ⟨j, hj1, by simp -implicitDefEqProofs (disch := omega) only [wx_uk, wx_un, pk_us, pk_un]; exact hj2⟩ (by omega) (by omega) (by omega)
    refine ⟨σ', τ', ?_, ?_, r3, wFr_tr b2 r4⟩
    · rw [nI_add] at a4
      simp -implicitDefEqProofs (disch := omega) only [e_X9_weigh_2, e_X9_weigh_2__1, e_X9_weigh_2__2, e_X9_weigh_2__3, e_X9_weigh_2__4, e_X9_weigh_2__5, e_X9_weigh_2__6, e7, u3, wh_hC hle, a4, wx_bd, wx_let, wx_st, wx_lit, wx_ga, wx_sa, pk_mul, nI_add, wx_le, wx_lt, wx_eq, wx_en, wx_ne', wx_nn, wx_ltn, wx_len, wx_nlt, wx_nle, wx_bz0, wx_bz1, if_pos, if_neg, wx_ite, Nat.reduceEqDiff, eq_self, if_true, if_false, not_true_eq_false, not_false_eq_true]
      exact r1
    · rw [a4, nI_add] at a1
      have a1' := a1.symm
      simp -implicitDefEqProofs (disch := omega) only [wx_le] at a1'
      simp -implicitDefEqProofs (disch := omega) only [e_X12_wears_83, e_X12_wears_83__1, e_X12_wears_83__2, e_X12_wears_83__3, e_X12_wears_83__4, e_X12_wears_83__5, e_X12_wears_83__6, e_X12_wears_83__7, e_X12_wears_83__8, e_X12_ruleAt, hk, g3, w2, wl_lesser, a1', wx_bd, wx_let, wx_st, wx_lit, wx_ga, wx_sa, pk_mul, nI_add, wx_le, wx_lt, wx_eq, wx_en, wx_ne', wx_nn, wx_ltn, wx_len, wx_nlt, wx_nle, wx_bz0, wx_bz1, if_pos, if_neg, wx_ite, Nat.reduceEqDiff, eq_self, if_true, if_false, not_true_eq_false, not_false_eq_true]
      exact r2
set_option maxHeartbeats 1000000 in
/-- the youngest without a WIG -/
theorem wl_young_l {σ τ : wg_M} (h : wB nw nj nc σ 1 (τ 1) τ) (hN : wN nw nj nc τ) : ∀ d i n m x, i + d = nj → d < n → d < m → (x = -nI 1 ∨ ∃ b, b < nj ∧ x = nI b) → ∃ r, f_X2_youngestBare_4 n 11 (nI 0) x (nI i) σ = some (r, σ) ∧ f_X12_youngest_4 m 0 x (nI i) τ = some (r, τ) ∧ (r = -nI 1 ∨ ∃ b, b < nj ∧ r = nI b) := by
  obtain ⟨n1, n2, n3, n4, n5, n6⟩ := id hN
  have e5 := wb_nj h
  intro d
  induction d with
  | zero =>
    intro i n m x hi hn hm hx
    obtain ⟨n, rfl⟩ : ∃ k, n = k + 1 := ⟨n - 1, by omega⟩
    obtain ⟨m, rfl⟩ : ∃ k, m = k + 1 := ⟨m - 1, by omega⟩
    refine ⟨x, ?_, ?_, hx⟩
    · simp -implicitDefEqProofs (disch := omega) only [e_X2_youngestBare_4, e_X2_youngestBare_4__1, e_X2_youngestBare_4__2, e5, wx_bd, wx_let, wx_st, wx_lit, wx_ga, wx_sa, pk_mul, nI_add, wx_le, wx_lt, wx_eq, wx_en, wx_ne', wx_nn, wx_ltn, wx_len, wx_nlt, wx_nle, wx_bz0, wx_bz1, if_pos, if_neg, wx_ite, Nat.reduceEqDiff, eq_self, if_true, if_false, not_true_eq_false, not_false_eq_true]
    · simp -implicitDefEqProofs (disch := omega) only [e_X12_youngest_4, e_X12_youngest_4__1, e_X12_youngest_4__2, e_X12_youngest_4__3, e_X12_youngest_4__4, n5, wx_bd, wx_let, wx_st, wx_lit, wx_ga, wx_sa, pk_mul, nI_add, wx_le, wx_lt, wx_eq, wx_en, wx_ne', wx_nn, wx_ltn, wx_len, wx_nlt, wx_nle, wx_bz0, wx_bz1, if_pos, if_neg, wx_ite, Nat.reduceEqDiff, eq_self, if_true, if_false, not_true_eq_false, not_false_eq_true]
  | succ d ih =>
    intro i n m x hi hn hm hx
    obtain ⟨n, rfl⟩ : ∃ k, n = k + 1 := ⟨n - 1, by omega⟩
    obtain ⟨m, rfl⟩ : ∃ k, m = k + 1 := ⟨m - 1, by omega⟩
    have hij : i < nj := by omega
    have e14 := wb_worn h hij
    have e15 := wb_dead h hij
    have e12 := wb_age h hij
    have z : (nI 0 >>> (nI i &&& nI 31)) &&& nI 1 = nI 0 := by
      rw [show nI 0 >>> (nI i &&& nI 31) = 0 from Int32.zero_shiftRight]; decide
    have skip := ih (i + 1) n m x (by omega) (by omega) (by omega) hx
    have take := ih (i + 1) n m (nI i) (by omega) (by omega) (by omega) (Or.inr ⟨i, hij, rfl⟩)
    rcases wl_alive h hN hij with ⟨c, -, c2⟩ | ⟨c, -, c2⟩
    · by_cases cw : τ 1 (13 + i) - nI 1 = -nI 1
      · rcases hx with rfl | ⟨b, hb, rfl⟩
        · obtain ⟨r, r1, r2, r3⟩ := take
          refine ⟨r, ?_, ?_, r3⟩
          · simp -implicitDefEqProofs (disch := omega) only [e_X2_youngestBare_4, e_X2_youngestBare_4__1, e_X2_youngestBare_4__2, e_X2_youngestBare_44, e_X2_youngestBare_44__1, e_X2_youngestBare_44__2, e_X2_youngestBare_71, e_X2_youngestBare_73, e_X2_youngestBare_73__1, e5, e15, e14, c, cw, z, wx_bd, wx_let, wx_st, wx_lit, wx_ga, wx_sa, pk_mul, nI_add, wx_le, wx_lt, wx_eq, wx_en, wx_ne', wx_nn, wx_ltn, wx_len, wx_nlt, wx_nle, wx_bz0, wx_bz1, if_pos, if_neg, wx_ite, Nat.reduceEqDiff, eq_self, if_true, if_false, not_true_eq_false, not_false_eq_true]
            exact r1
          · simp -implicitDefEqProofs (disch := omega) only [e_X12_youngest_4, e_X12_youngest_4__1, e_X12_youngest_4__2, e_X12_youngest_4__3, e_X12_youngest_4__4, e_X12_youngest_53, e_X12_youngest_55, e_X12_youngest_55__1, e_X12_wigOf, e_X12_wigOf__1, n5, c2, cw, wx_bd, wx_let, wx_st, wx_lit, wx_ga, wx_sa, pk_mul, nI_add, wx_le, wx_lt, wx_eq, wx_en, wx_ne', wx_nn, wx_ltn, wx_len, wx_nlt, wx_nle, wx_bz0, wx_bz1, if_pos, if_neg, wx_ite, Nat.reduceEqDiff, eq_self, if_true, if_false, not_true_eq_false, not_false_eq_true]
            exact r2
        · have e12b := wb_age h hb
          by_cases ca : τ 1 (3 + b) ≤ τ 1 (3 + i)
          · obtain ⟨r, r1, r2, r3⟩ := skip
            refine ⟨r, ?_, ?_, r3⟩
            · simp -implicitDefEqProofs (disch := omega) only [e_X2_youngestBare_4, e_X2_youngestBare_4__1, e_X2_youngestBare_4__2, e_X2_youngestBare_44, e_X2_youngestBare_44__1, e_X2_youngestBare_44__2, e_X2_youngestBare_71, e_X2_youngestBare_73, e_X2_youngestBare_73__1, e5, e15, e14, e12, e12b, c, cw, z, ca, wx_bd, wx_let, wx_st, wx_lit, wx_ga, wx_sa, pk_mul, nI_add, wx_le, wx_lt, wx_eq, wx_en, wx_ne', wx_nn, wx_ltn, wx_len, wx_nlt, wx_nle, wx_bz0, wx_bz1, if_pos, if_neg, wx_ite, Nat.reduceEqDiff, eq_self, if_true, if_false, not_true_eq_false, not_false_eq_true]
              exact r1
            · simp -implicitDefEqProofs (disch := omega) only [e_X12_youngest_4, e_X12_youngest_4__1, e_X12_youngest_4__2, e_X12_youngest_4__3, e_X12_youngest_4__4, e_X12_youngest_53, e_X12_youngest_55, e_X12_youngest_55__1, e_X12_wigOf, e_X12_wigOf__1, n5, c2, cw, ca, wx_bd, wx_let, wx_st, wx_lit, wx_ga, wx_sa, pk_mul, nI_add, wx_le, wx_lt, wx_eq, wx_en, wx_ne', wx_nn, wx_ltn, wx_len, wx_nlt, wx_nle, wx_bz0, wx_bz1, if_pos, if_neg, wx_ite, Nat.reduceEqDiff, eq_self, if_true, if_false, not_true_eq_false, not_false_eq_true]
              exact r2
          · obtain ⟨r, r1, r2, r3⟩ := take
            refine ⟨r, ?_, ?_, r3⟩
            · simp -implicitDefEqProofs (disch := omega) only [e_X2_youngestBare_4, e_X2_youngestBare_4__1, e_X2_youngestBare_4__2, e_X2_youngestBare_44, e_X2_youngestBare_44__1, e_X2_youngestBare_44__2, e_X2_youngestBare_71, e_X2_youngestBare_73, e_X2_youngestBare_73__1, e5, e15, e14, e12, e12b, c, cw, z, ca, wx_bd, wx_let, wx_st, wx_lit, wx_ga, wx_sa, pk_mul, nI_add, wx_le, wx_lt, wx_eq, wx_en, wx_ne', wx_nn, wx_ltn, wx_len, wx_nlt, wx_nle, wx_bz0, wx_bz1, if_pos, if_neg, wx_ite, Nat.reduceEqDiff, eq_self, if_true, if_false, not_true_eq_false, not_false_eq_true]
              exact r1
            · simp -implicitDefEqProofs (disch := omega) only [e_X12_youngest_4, e_X12_youngest_4__1, e_X12_youngest_4__2, e_X12_youngest_4__3, e_X12_youngest_4__4, e_X12_youngest_53, e_X12_youngest_55, e_X12_youngest_55__1, e_X12_wigOf, e_X12_wigOf__1, n5, c2, cw, ca, wx_bd, wx_let, wx_st, wx_lit, wx_ga, wx_sa, pk_mul, nI_add, wx_le, wx_lt, wx_eq, wx_en, wx_ne', wx_nn, wx_ltn, wx_len, wx_nlt, wx_nle, wx_bz0, wx_bz1, if_pos, if_neg, wx_ite, Nat.reduceEqDiff, eq_self, if_true, if_false, not_true_eq_false, not_false_eq_true]
              exact r2
      · obtain ⟨r, r1, r2, r3⟩ := skip
        refine ⟨r, ?_, ?_, r3⟩
        · simp -implicitDefEqProofs (disch := omega) only [e_X2_youngestBare_4, e_X2_youngestBare_4__1, e_X2_youngestBare_4__2, e_X2_youngestBare_43, e_X2_youngestBare_44, e_X2_youngestBare_44__1, e_X2_youngestBare_44__2, e_X2_youngestBare_73, e_X2_youngestBare_73__1, e5, e15, e14, c, cw, wx_bd, wx_let, wx_st, wx_lit, wx_ga, wx_sa, pk_mul, nI_add, wx_le, wx_lt, wx_eq, wx_en, wx_ne', wx_nn, wx_ltn, wx_len, wx_nlt, wx_nle, wx_bz0, wx_bz1, if_pos, if_neg, wx_ite, Nat.reduceEqDiff, eq_self, if_true, if_false, not_true_eq_false, not_false_eq_true]
          exact r1
        · simp -implicitDefEqProofs (disch := omega) only [e_X12_youngest_4, e_X12_youngest_4__1, e_X12_youngest_4__2, e_X12_youngest_4__3, e_X12_youngest_4__4, e_X12_youngest_55, e_X12_youngest_55__1, e_X12_wigOf, e_X12_wigOf__1, n5, c2, cw, wx_bd, wx_let, wx_st, wx_lit, wx_ga, wx_sa, pk_mul, nI_add, wx_le, wx_lt, wx_eq, wx_en, wx_ne', wx_nn, wx_ltn, wx_len, wx_nlt, wx_nle, wx_bz0, wx_bz1, if_pos, if_neg, wx_ite, Nat.reduceEqDiff, eq_self, if_true, if_false, not_true_eq_false, not_false_eq_true]
          exact r2
    · obtain ⟨r, r1, r2, r3⟩ := skip
      refine ⟨r, ?_, ?_, r3⟩
      · simp -implicitDefEqProofs (disch := omega) only [e_X2_youngestBare_4, e_X2_youngestBare_4__1, e_X2_youngestBare_4__2, e_X2_youngestBare_43, e_X2_youngestBare_44, e_X2_youngestBare_44__1, e_X2_youngestBare_44__2, e_X2_youngestBare_73, e_X2_youngestBare_73__1, e5, e15, c, wx_bd, wx_let, wx_st, wx_lit, wx_ga, wx_sa, pk_mul, nI_add, wx_le, wx_lt, wx_eq, wx_en, wx_ne', wx_nn, wx_ltn, wx_len, wx_nlt, wx_nle, wx_bz0, wx_bz1, if_pos, if_neg, wx_ite, Nat.reduceEqDiff, eq_self, if_true, if_false, not_true_eq_false, not_false_eq_true]
        exact r1
      · simp -implicitDefEqProofs (disch := omega) only [e_X12_youngest_4, e_X12_youngest_4__1, e_X12_youngest_4__2, e_X12_youngest_4__3, e_X12_youngest_4__4, e_X12_youngest_55, e_X12_youngest_55__1, n5, c2, wx_bd, wx_let, wx_st, wx_lit, wx_ga, wx_sa, pk_mul, nI_add, wx_le, wx_lt, wx_eq, wx_en, wx_ne', wx_nn, wx_ltn, wx_len, wx_nlt, wx_nle, wx_bz0, wx_bz1, if_pos, if_neg, wx_ite, Nat.reduceEqDiff, eq_self, if_true, if_false, not_true_eq_false, not_false_eq_true]
        exact r2
set_option maxHeartbeats 1000000 in
theorem wl_young {σ τ : wg_M} (h : wB nw nj nc σ 1 (τ 1) τ) (hN : wN nw nj nc τ) : ∃ r, f_X2_youngestBare 11 (nI 0) σ = some (r, σ) ∧ f_X12_youngest 0 τ = some (r, τ) ∧ (r = -nI 1 ∨ ∃ b, b < nj ∧ r = nI b) := by
  have n2 := hN.2.1
  obtain ⟨r, r1, r2, r3⟩ := wl_young_l h hN nj 0 wg_N wg_N (-nI 1) (by omega) (by rw [wx_N]; omega) (by rw [wx_N]; omega) (Or.inl rfl)
  exact ⟨r, r1, r2, r3⟩
set_option maxHeartbeats 1000000 in
/-- one who is dead isn't looked at -/
theorem wl_young_d {s : wg_M} {j nj : Nat} {v B : Int32} (hj : s 15 j = nI 1) (hn : s 11 5 = nI nj) (hnj : nj ≤ 10) : ∀ d i n x r, i + d = nj → d < n → (x = -nI 1 ∨ ∃ b, b < nj ∧ x = nI b) → f_X2_youngestBare_4 n 11 B x (nI i) (wg_u s 14 j v) = some (r, wg_u s 14 j v) → f_X2_youngestBare_4 n 11 B x (nI i) s = some (r, s) := by
  intro d
  induction d with
  | zero =>
    intro i n x r hi hn' hx h
    obtain ⟨n, rfl⟩ : ∃ k, n = k + 1 := ⟨n - 1, by omega⟩
    simp -implicitDefEqProofs (disch := omega) only [e_X2_youngestBare_4, e_X2_youngestBare_4__1, e_X2_youngestBare_4__2, hn, wx_un, Option.some.injEq, Prod.mk.injEq, wx_bd, wx_let, wx_st, wx_lit, wx_ga, wx_sa, pk_mul, nI_add, wx_le, wx_lt, wx_eq, wx_en, wx_ne', wx_nn, wx_ltn, wx_len, wx_nlt, wx_nle, wx_bz0, wx_bz1, if_pos, if_neg, wx_ite, Nat.reduceEqDiff, eq_self, if_true, if_false, not_true_eq_false, not_false_eq_true] at h ⊢
    exact ⟨h.1, trivial⟩
  | succ d ih =>
    intro i n x r hi hn' hx h
    obtain ⟨n, rfl⟩ : ∃ k, n = k + 1 := ⟨n - 1, by omega⟩
    have skip := ih (i + 1) n x r (by omega) (by omega) hx
    have take := ih (i + 1) n (nI i) r (by omega) (by omega) (Or.inr ⟨i, by omega, rfl⟩)
    by_cases c15 : s 15 i = nI 0
    · have hij : i ≠ j := fun e => by rw [e, hj] at c15; exact absurd c15 (by decide)
      by_cases c14 : s 14 i = -nI 1
      · by_cases cb : (B >>> (nI i &&& nI 31)) &&& nI 1 = nI 0
        · rcases hx with rfl | ⟨b, hb, rfl⟩
          · simp -implicitDefEqProofs (disch := omega) only [e_X2_youngestBare_4, e_X2_youngestBare_4__1, e_X2_youngestBare_4__2, e_X2_youngestBare_44, e_X2_youngestBare_44__1, e_X2_youngestBare_44__2, e_X2_youngestBare_71, e_X2_youngestBare_73, e_X2_youngestBare_73__1, hn, wx_uk, wx_un, pk_us, pk_un, c15, c14, cb, wx_bd, wx_let, wx_st, wx_lit, wx_ga, wx_sa, pk_mul, nI_add, wx_le, wx_lt, wx_eq, wx_en, wx_ne', wx_nn, wx_ltn, wx_len, wx_nlt, wx_nle, wx_bz0, wx_bz1, if_pos, if_neg, wx_ite, Nat.reduceEqDiff, eq_self, if_true, if_false, not_true_eq_false, not_false_eq_true] at h ⊢
            exact take h
          · by_cases ca : s 12 b ≤ s 12 i
            · simp -implicitDefEqProofs (disch := omega) only [e_X2_youngestBare_4, e_X2_youngestBare_4__1, e_X2_youngestBare_4__2, e_X2_youngestBare_44, e_X2_youngestBare_44__1, e_X2_youngestBare_44__2, e_X2_youngestBare_71, e_X2_youngestBare_73, e_X2_youngestBare_73__1, hn, wx_uk, wx_un, pk_us, pk_un, c15, c14, cb, ca, wx_bd, wx_let, wx_st, wx_lit, wx_ga, wx_sa, pk_mul, nI_add, wx_le, wx_lt, wx_eq, wx_en, wx_ne', wx_nn, wx_ltn, wx_len, wx_nlt, wx_nle, wx_bz0, wx_bz1, if_pos, if_neg, wx_ite, Nat.reduceEqDiff, eq_self, if_true, if_false, not_true_eq_false, not_false_eq_true] at h ⊢
              exact skip h
            · simp -implicitDefEqProofs (disch := omega) only [e_X2_youngestBare_4, e_X2_youngestBare_4__1, e_X2_youngestBare_4__2, e_X2_youngestBare_44, e_X2_youngestBare_44__1, e_X2_youngestBare_44__2, e_X2_youngestBare_71, e_X2_youngestBare_73, e_X2_youngestBare_73__1, hn, wx_uk, wx_un, pk_us, pk_un, c15, c14, cb, ca, wx_bd, wx_let, wx_st, wx_lit, wx_ga, wx_sa, pk_mul, nI_add, wx_le, wx_lt, wx_eq, wx_en, wx_ne', wx_nn, wx_ltn, wx_len, wx_nlt, wx_nle, wx_bz0, wx_bz1, if_pos, if_neg, wx_ite, Nat.reduceEqDiff, eq_self, if_true, if_false, not_true_eq_false, not_false_eq_true] at h ⊢
              exact take h
        · simp -implicitDefEqProofs (disch := omega) only [e_X2_youngestBare_4, e_X2_youngestBare_4__1, e_X2_youngestBare_4__2, e_X2_youngestBare_43, e_X2_youngestBare_44, e_X2_youngestBare_44__1, e_X2_youngestBare_44__2, e_X2_youngestBare_73, e_X2_youngestBare_73__1, hn, wx_uk, wx_un, pk_us, pk_un, c15, c14, cb, wx_bd, wx_let, wx_st, wx_lit, wx_ga, wx_sa, pk_mul, nI_add, wx_le, wx_lt, wx_eq, wx_en, wx_ne', wx_nn, wx_ltn, wx_len, wx_nlt, wx_nle, wx_bz0, wx_bz1, if_pos, if_neg, wx_ite, Nat.reduceEqDiff, eq_self, if_true, if_false, not_true_eq_false, not_false_eq_true] at h ⊢
          exact skip h
      · simp -implicitDefEqProofs (disch := omega) only [e_X2_youngestBare_4, e_X2_youngestBare_4__1, e_X2_youngestBare_4__2, e_X2_youngestBare_43, e_X2_youngestBare_44, e_X2_youngestBare_44__1, e_X2_youngestBare_44__2, e_X2_youngestBare_73, e_X2_youngestBare_73__1, hn, wx_uk, wx_un, pk_us, pk_un, c15, c14, wx_bd, wx_let, wx_st, wx_lit, wx_ga, wx_sa, pk_mul, nI_add, wx_le, wx_lt, wx_eq, wx_en, wx_ne', wx_nn, wx_ltn, wx_len, wx_nlt, wx_nle, wx_bz0, wx_bz1, if_pos, if_neg, wx_ite, Nat.reduceEqDiff, eq_self, if_true, if_false, not_true_eq_false, not_false_eq_true] at h ⊢
        exact skip h
    · simp -implicitDefEqProofs (disch := omega) only [e_X2_youngestBare_4, e_X2_youngestBare_4__1, e_X2_youngestBare_4__2, e_X2_youngestBare_43, e_X2_youngestBare_44, e_X2_youngestBare_44__1, e_X2_youngestBare_44__2, e_X2_youngestBare_73, e_X2_youngestBare_73__1, hn, wx_un, c15, wx_bd, wx_let, wx_st, wx_lit, wx_ga, wx_sa, pk_mul, nI_add, wx_le, wx_lt, wx_eq, wx_en, wx_ne', wx_nn, wx_ltn, wx_len, wx_nlt, wx_nle, wx_bz0, wx_bz1, if_pos, if_neg, wx_ite, Nat.reduceEqDiff, eq_self, if_true, if_false, not_true_eq_false, not_false_eq_true] at h ⊢
      exact skip h
set_option maxHeartbeats 1000000 in
theorem wnM_13 {th : Bool} {l x : Nat} {y a b c V : Int32} {t : wg_M} (hx : x ≠ 2) : wnM th l y a b c (wg_u t 1 x V) = wg_u (wnM th l y a b c t) 1 x V := by
  funext q
  by_cases c1 : q = 1
  · subst c1
    funext z
    by_cases cz : z = 2
    · subst cz
      unfold wnM
      split
      · rfl
      · split
        · simp -implicitDefEqProofs (disch := omega) only [wx_uk, wx_un, pk_us, pk_un]
        · rfl
    · rw [wnM_1 cz]
      by_cases cx : z = x
      · subst cx; simp only [wx_uk, pk_us]
      · simp -implicitDefEqProofs (disch := omega) only [wx_uk, wx_un, pk_us, pk_un]
        rw [wnM_1 cz]
  · rw [wx_un c1]
    by_cases c8 : q = 8
    · subst c8
      unfold wnM
      split
      · exact wx_un (by omega)
      · split
        · simp -implicitDefEqProofs (disch := omega) only [wx_uk, wx_un, pk_us, pk_un]
        · exact wx_un (by omega)
    · rw [wnM_un c1 c8, wnM_un c1 c8, wx_un c1]
set_option maxHeartbeats 1000000 in
/-- a JUDGE dies and his WIG passes on -/
theorem wl_passOn {σ τ : wg_M} (h : wX th nw nj nc σ τ) {j : Nat} (hj : j < nj) : ∃ σ' τ', f_X1_passOn 279 (nI j) σ = some (nI 0, σ') ∧ f_X12_dies 0 (nI j) τ = some (nI 0, τ') ∧ wX th nw nj nc σ' τ' ∧ wFr σ σ' τ τ' := by
  have n1 := h.1.1
  have n2 := h.1.2.1
  have e14 := wb_worn h.2.1 hj
  have e12 := wb_age h.2.1 hj
  obtain ⟨X1, F1⟩ := wl_setJ (c := 15) (o := 23) (v := nI 1) h hj (Or.inr (Or.inl ⟨rfl, rfl, rfl⟩))
  obtain ⟨l, l1, l2⟩ := X1.2.1.1.2.2.2.2.2.2
  have e9 := wb_lines X1.2.1
  rw [l2] at e9
  obtain ⟨X2, F2⟩ := wl_noteB (a := nI 2) (b := nI j) (c := τ 1 (3 + j)) X1 l2 l1
  have nC := wl_noteC (a := nI 2) (b := nI j) (c := τ 1 (3 + j)) X1.2.2.2.2 e9 l1
  -- the reference clears first
  have X1t : wTh th σ (wg_u (wg_u τ 1 (23 + j) (nI 1)) 1 (13 + j) (nI 0)) := ⟨h.2.2.2.2.1, by rw [wx_un (by omega), wx_un (by omega)]; exact h.2.2.2.2.2⟩
  have nM := wl_noteM (a := nI 2) (b := nI j) (c := τ 1 (3 + j)) X1t (l := l) (by simp -implicitDefEqProofs (disch := omega) only [wx_uk, wx_un, pk_us, pk_un] at l2 ⊢; exact l2) l1
  rw [wnM_13 (by omega)] at nM
  have y0 : wg_u (wg_u τ 1 (23 + j) (nI 1)) 1 (13 + j) (nI 0) 1 0 = wg_u τ 1 (23 + j) (nI 1) 1 0 := by simp -implicitDefEqProofs (disch := omega) only [wx_uk, wx_un, pk_us, pk_un]
  rw [y0] at nM
  generalize hS : wnC th l (wg_u σ 15 j (nI 1) 1 7) (nI 2) (nI j) (τ 1 (3 + j)) (wg_u σ 15 j (nI 1)) = S at X2 F2 nC
  generalize hT : wnM th l (wg_u τ 1 (23 + j) (nI 1) 1 0) (nI 2) (nI j) (τ 1 (3 + j)) (wg_u τ 1 (23 + j) (nI 1)) = T at X2 F2 nM
  have S2 : S 2 8 = nI nw := wb_nw X2.2.1
  have T13 : T 1 (13 + j) = τ 1 (13 + j) := by rw [← hT, wnM_1 (by omega)]; simp -implicitDefEqProofs (disch := omega) only [wx_uk, wx_un, pk_us, pk_un]
  have S15 : S 15 j = nI 1 := by rw [← hS, wnC_un (by omega), wx_uk, pk_us]
  rcases wb_wornc h.2.1 hj with cw | ⟨w, hw, cw⟩
  · rw [cw, wx_m1] at e14
    have hTe : wg_u T 1 (13 + j) (nI 0) = T := by
      funext q
      by_cases cq : q = 1
      · subst cq
        rw [wx_uk]
        funext z
        by_cases cz : z = 13 + j
        · subst cz; rw [pk_us, T13, cw]
        · rw [pk_un cz]
      · rw [wx_un cq]
    rw [hTe] at nM
    refine ⟨S, T, ?_, ?_, X2, wFr_tr F1 F2⟩
    · simp -implicitDefEqProofs (disch := omega) only [e_X1_passOn, e_X1_passOn__1, e_X1_passOn__2, e_X1_passOn__3, e_X1_passOn__4, e_X1_passOn__5, e_X1_passOn__6, e_X1_passOn__7, e_X1_passOn__8, e_X9_has, e14, e12, nC, S2, wx_uk, wx_un, pk_us, pk_un, wx_bd, wx_let, wx_st, wx_lit, wx_ga, wx_sa, pk_mul, nI_add, wx_le, wx_lt, wx_eq, wx_en, wx_ne', wx_nn, wx_ltn, wx_len, wx_nlt, wx_nle, wx_bz0, wx_bz1, if_pos, if_neg, wx_ite, Nat.reduceEqDiff, eq_self, if_true, if_false, not_true_eq_false, not_false_eq_true]
    · simp -implicitDefEqProofs (disch := omega) only [e_X12_dies, e_X12_dies__1, e_X12_dies__2, e_X12_dies__3, e_X12_dies__4, e_X12_dies__5, e_X12_dies__6, e_X12_dies__7, e_X12_dies__8, e_X12_wigOf, e_X12_wigOf__1, cw, wx_m1, nM, wx_uk, wx_un, pk_us, pk_un, wx_bd, wx_let, wx_st, wx_lit, wx_ga, wx_sa, pk_mul, nI_add, wx_le, wx_lt, wx_eq, wx_en, wx_ne', wx_nn, wx_ltn, wx_len, wx_nlt, wx_nle, wx_bz0, wx_bz1, if_pos, if_neg, wx_ite, Nat.reduceEqDiff, eq_self, if_true, if_false, not_true_eq_false, not_false_eq_true]
  · rw [cw, wx_sub1] at e14
    obtain ⟨r, s1, t1, a1, a2, a3, a4, a5, a6, a7⟩ := wl_off X2 hw
    rcases a4 with ⟨-, -, rfl⟩ | ⟨q, hq, rfl, q1, q2, q3⟩
    · exact absurd (T13.trans cw) (a7 j hj)
    have hqj : q = j := by
      rcases X2.2.1.2.2.2.2 q j hq hj (by rw [q1, T13, cw]) with z | z
      · rw [q1, wx_eq (by omega) (by omega)] at z; omega
      · exact z
    subst hqj
    rw [← q3] at nM
    obtain ⟨y, y1, y2, y3⟩ := wl_young a5.2.1 a5.1
    have y4 : f_X2_youngestBare 11 (nI 0) S = some (y, S) := by
      rw [e_X2_youngestBare, q2] at y1
      exact wl_young_d (s := S) (j := q) (nj := nj) S15 (wb_nj X2.2.1) n2 nj 0 wg_N (-nI 1) y (by omega) (by rw [wx_N]; omega) (Or.inl rfl) y1
    rcases y3 with rfl | ⟨b, hb, rfl⟩
    · refine ⟨s1, t1, ?_, ?_, a5, wFr_tr F1 (wFr_tr F2 a6)⟩
      · simp -implicitDefEqProofs (disch := omega) only [e_X1_passOn, e_X1_passOn__1, e_X1_passOn__2, e_X1_passOn__3, e_X1_passOn__4, e_X1_passOn__5, e_X1_passOn__6, e_X1_passOn__7, e_X1_passOn__8, e_X9_has, e14, e12, nC, S2, y4, a1, wx_uk, wx_un, pk_us, pk_un, wx_bd, wx_let, wx_st, wx_lit, wx_ga, wx_sa, pk_mul, nI_add, wx_le, wx_lt, wx_eq, wx_en, wx_ne', wx_nn, wx_ltn, wx_len, wx_nlt, wx_nle, wx_bz0, wx_bz1, if_pos, if_neg, wx_ite, Nat.reduceEqDiff, eq_self, if_true, if_false, not_true_eq_false, not_false_eq_true]
      · simp -implicitDefEqProofs (disch := omega) only [e_X12_dies, e_X12_dies__1, e_X12_dies__2, e_X12_dies__3, e_X12_dies__4, e_X12_dies__5, e_X12_dies__6, e_X12_dies__7, e_X12_dies__8, e_X12_wigOf, e_X12_wigOf__1, cw, wx_sub1, nM, y2, wx_uk, wx_un, pk_us, pk_un, wx_bd, wx_let, wx_st, wx_lit, wx_ga, wx_sa, pk_mul, nI_add, wx_le, wx_lt, wx_eq, wx_en, wx_ne', wx_nn, wx_ltn, wx_len, wx_nlt, wx_nle, wx_bz0, wx_bz1, if_pos, if_neg, wx_ite, Nat.reduceEqDiff, eq_self, if_true, if_false, not_true_eq_false, not_false_eq_true]
    · obtain ⟨σ', τ', p1, p2, p3, p4⟩ := wl_putOn a5 hw hb
      -- put on where it had come off: the same as where it comes off there
      obtain ⟨r', s1', t1', b1, b2, b3, b4, -⟩ := wl_off a5 hw
      have hs1 : s1' = s1 := by
        rcases b4 with ⟨-, e, -⟩ | ⟨z, hz, -, z1, -, -⟩
        · exact e
        · exact absurd z1 (a7 z hz)
      rw [hs1] at b1
      have pS : f_X1_putOn 279 (nI w) (nI b) S = some (nI 0, σ') := by
        rw [← p1]
        simp -implicitDefEqProofs only [e_X1_putOn, a1, b1, wx_bd]
      refine ⟨σ', τ', ?_, ?_, p3, wFr_tr F1 (wFr_tr F2 (wFr_tr a6 p4))⟩
      · simp -implicitDefEqProofs (disch := omega) only [e_X1_passOn, e_X1_passOn__1, e_X1_passOn__2, e_X1_passOn__3, e_X1_passOn__4, e_X1_passOn__5, e_X1_passOn__6, e_X1_passOn__7, e_X1_passOn__8, e_X9_has, e14, e12, nC, S2, y4, pS, wx_uk, wx_un, pk_us, pk_un, wx_bd, wx_let, wx_st, wx_lit, wx_ga, wx_sa, pk_mul, nI_add, wx_le, wx_lt, wx_eq, wx_en, wx_ne', wx_nn, wx_ltn, wx_len, wx_nlt, wx_nle, wx_bz0, wx_bz1, if_pos, if_neg, wx_ite, Nat.reduceEqDiff, eq_self, if_true, if_false, not_true_eq_false, not_false_eq_true]
      · simp -implicitDefEqProofs (disch := omega) only [e_X12_dies, e_X12_dies__1, e_X12_dies__2, e_X12_dies__3, e_X12_dies__4, e_X12_dies__5, e_X12_dies__6, e_X12_dies__7, e_X12_dies__8, e_X12_wigOf, e_X12_wigOf__1, cw, wx_sub1, nM, y2, p2, wx_uk, wx_un, pk_us, pk_un, wx_bd, wx_let, wx_st, wx_lit, wx_ga, wx_sa, pk_mul, nI_add, wx_le, wx_lt, wx_eq, wx_en, wx_ne', wx_nn, wx_ltn, wx_len, wx_nlt, wx_nle, wx_bz0, wx_bz1, if_pos, if_neg, wx_ite, Nat.reduceEqDiff, eq_self, if_true, if_false, not_true_eq_false, not_false_eq_true]
end YE

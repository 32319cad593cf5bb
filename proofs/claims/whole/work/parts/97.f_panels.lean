set_option maxHeartbeats 1000000 in
theorem wck3 {nj : Nat} {τ : wg_M} {V : Nat → Nat} {j : Nat} (hj : j < nj) : wck (wPk τ V (some j)) 3 nj = if τ 1 (23 + j) = nI 0 then 1 else 0 := by
  have k3 : ∀ i, (wPk τ V (some j) i = 3) ↔ (i = j ∧ τ 1 (23 + j) = nI 0) := fun i => by
    unfold wPk
    by_cases c : i = j
    · subst c
      by_cases c2 : τ 1 (23 + i) = nI 0 <;> simp [c2]
    · have c' : ¬ j = i := fun e => c e.symm
      by_cases c2 : τ 1 (23 + i) = nI 0
      · simp only [c2, if_true, Option.some.injEq, c', if_false, c, false_and, iff_false]
        split <;> omega
      · simp [c2, c]
  have gen : ∀ k, wck (wPk τ V (some j)) 3 k = if j < k ∧ τ 1 (23 + j) = nI 0 then 1 else 0 := by
    intro k
    induction k with
    | zero => simp [wck, wh_n]
    | succ k ih =>
      unfold wck at ih ⊢
      simp only [wh_n]
      rw [ih]
      by_cases c : k = j
      · subst c
        by_cases c2 : τ 1 (23 + k) = nI 0 <;> simp [c2, k3]
      · have : ¬ wPk τ V (some j) k = 3 := fun q => c ((k3 k).mp q).1
        simp only [this, decide_false, Bool.false_eq_true, if_false, Nat.add_zero]
        by_cases c2 : j < k
        · simp [c2, show j < k + 1 by omega]
        · simp [c2, show ¬ j < k + 1 by omega]
  rw [gen nj]
  simp [hj]
set_option maxHeartbeats 1000000 in
theorem ws_panels : wp_panels wR := by
  intro σ τ a0 a1 h
  have h := wR_told (nI 0) h
  simp only [e_X12_panels, wx_st, wx_lit]
  generalize wg_u τ 0 0 (nI 0) = τ at h ⊢
  obtain ⟨nw, nj, nc, hX, hY, hP, hI, hD⟩ := wR_X h
  obtain ⟨n1, n2, n3, n4, n5, n6⟩ := id hX.1
  have hB := hX.2.1
  have hn : nw ≤ 8 ∧ nj ≤ 10 ∧ nc ≤ 14 := ⟨n1, n2, n3⟩
  rcases wk_tri (wb_nc hB) n6 n3 a0 with ⟨c1, c2⟩ | ⟨c, hc, rfl, c1, c2⟩
  · exact ⟨-nI 1, σ, τ, by simp -implicitDefEqProofs (disch := omega) only [e_X11_panels, e_X11_panels__1, e_X11_panels__2, e_X11_panels__3, e_X11_panels__4, c1, wx_bd, wx_let, wx_st, wx_lit, wx_ga, wx_sa, pk_mul, nI_add, wx_le, wx_lt, wx_eq, wx_en, wx_ne', wx_nn, wx_ltn, wx_len, wx_nlt, wx_nle, wx_bz0, wx_bz1, if_pos, if_neg, wx_ite, Nat.reduceEqDiff, eq_self, if_true, if_false, not_true_eq_false, not_false_eq_true], by simp -implicitDefEqProofs (disch := omega) only [e_X12_panels, e_X12_panels__1, e_X12_panels__2, e_X12_panels__3, c2, wx_bd, wx_let, wx_st, wx_lit, wx_ga, wx_sa, pk_mul, nI_add, wx_le, wx_lt, wx_eq, wx_en, wx_ne', wx_nn, wx_ltn, wx_len, wx_nlt, wx_nle, wx_bz0, wx_bz1, if_pos, if_neg, wx_ite, Nat.reduceEqDiff, eq_self, if_true, if_false, not_true_eq_false, not_false_eq_true], h⟩
  · obtain ⟨V, hV⟩ := wl_vd hB hX.1 hX.2.2.2.1.1
    have hdd : ∀ i, i < nj → τ 1 (23 + i) = nI 0 ∨ τ 1 (23 + i) = nI 1 := fun i hi => wb_deadc hB hi
    obtain ⟨τ', f1, f2⟩ := wl_findSet hB hX.1 hV hc nj 0 wg_N τ (by omega) (by rw [wx_N]; omega) (wSm_rfl τ)
    have fs : f_X12_findingSet 0 (nI c) τ = some (nI (wh_m (wFs τ (V c)) nj), τ') := by rw [e_X12_findingSet]; exact f1
    have e1 : τ' 1 = τ 1 := f2 1 (by omega) (by omega)
    have e0 : τ' 0 = τ 0 := f2 0 (by omega) (by omega)
    have n5' : τ' 0 7 = nI nj := by rw [e0]; exact n5
    have ds := (wl_dead (wB_s hn (wSc_rfl σ) f2 hB) (wN_s f2 hX.1)).2
    have ew : wDs τ' = wDs τ := by funext j; unfold wDs; rw [e1]
    rw [ew] at ds
    have hF := wh_m10 (wFs τ (V c)) n2
    have hDm := wh_m10 (wDs τ) n2
    have h2 : 2 ^ nj ≤ 2 ^ 10 := Nat.pow_le_pow_right (by omega) n2
    have h2' : 1 ≤ 2 ^ nj := Nat.one_le_two_pow
    have es := wx_shl nj n2
    have em : nI (2 ^ nj) - nI 1 = nI (2 ^ nj - 1) := pk_sub (by omega)
    have cm : nI (2 ^ nj - 1) &&& (nI (wh_m (wDs τ) nj) ^^^ -nI 1) = nI (wMA nj τ) := wl_cmp (by omega) hDm
    have hM : wMA nj τ < 1024 := wl_and1024 (by omega)
    by_cases k0 : a1 = nI 0
    · subst k0
      obtain ⟨s1, g1, g2⟩ := wl_finders hB hX.1 hV hc (o := none) (fun j e => nomatch e) (q := 1) (by omega) nj 0 wg_N σ (by omega) (by rw [wx_N]; omega) (wSc_rfl σ)
      obtain ⟨s2, g3, g4⟩ := wl_finders hB hX.1 hV hc (o := none) (fun j e => nomatch e) (q := 0) (by omega) nj 0 wg_N s1 (by omega) (by rw [wx_N]; omega) g2
      have q1 : f_X7_finders 280 (nI c) (nI 1) (-nI 1) σ = some (nI (wck (wPk τ (V c) none) 1 nj), s1) := by rw [e_X7_finders]; exact g1
      have q2 : f_X7_finders 280 (nI c) (nI 0) (-nI 1) s1 = some (nI (wck (wPk τ (V c) none) 2 nj), s2) := by rw [e_X7_finders]; exact g3
      have b1 : wck (wPk τ (V c) none) 1 nj ≤ nj := wh_n_le _ _
      have b2 : wck (wPk τ (V c) none) 2 nj ≤ nj := wh_n_le _ _
      have p3 := wh_p3 _ (show wck (wPk τ (V c) none) 1 nj ≤ 10 by omega) _ (show wck (wPk τ (V c) none) 2 nj ≤ 10 by omega)
      have d6 : ¬ nI 6 = nI 0 := by decide
      have d2 : ¬ nI 2 = nI 0 := by decide
      have L := wl_pan0 n2 n5' hF hM (2 ^ nj) 0 wg_N (by omega) (by rw [wx_N]; omega)
      obtain ⟨A, hA⟩ : ∃ A, A = (nI (wck (wPk τ (V c) none) 1 nj) * (nI (wck (wPk τ (V c) none) 1 nj) - nI 1) * (nI (wck (wPk τ (V c) none) 1 nj) - nI 2)) / nI 6 + (nI (wck (wPk τ (V c) none) 1 nj) * (nI (wck (wPk τ (V c) none) 1 nj) - nI 1)) / nI 2 * nI (wck (wPk τ (V c) none) 2 nj) := ⟨_, rfl⟩
      rw [← hA] at p3
      rw [wl_cnt0 n2 hdd, ← p3] at L
      refine ⟨A, s2, τ', ?_, ?_, wR_s h g4 f2⟩
      · have pf : f_X7_panelsFor 280 (nI c) σ = some (A, s2) := by
          rw [hA]
          simp -implicitDefEqProofs only [e_X7_panelsFor, e_X7_panelsFor__1, e_X7_panelsFor__2, e_X7_panelsFor__3, e_X7_panelsFor__4, wx_lit, q1, q2, wx_bd, wg_dv, d6, d2, if_false]
        simp -implicitDefEqProofs (disch := omega) only [e_X11_panels, e_X11_panels__1, e_X11_panels__2, e_X11_panels__3, e_X11_panels__4, c1, pf, wx_bd, wx_let, wx_st, wx_lit, wx_ga, wx_sa, pk_mul, nI_add, wx_le, wx_lt, wx_eq, wx_en, wx_ne', wx_nn, wx_ltn, wx_len, wx_nlt, wx_nle, wx_bz0, wx_bz1, if_pos, if_neg, wx_ite, Nat.reduceEqDiff, eq_self, if_true, if_false, not_true_eq_false, not_false_eq_true]
      · simp -implicitDefEqProofs (disch := omega) only [e_X12_panels, e_X12_panels__1, e_X12_panels__2, e_X12_panels__3, e_X12_panels_36, e_X12_panels_36__1, e_X12_panels_36__2, e_X12_panels_36__3, c2, fs, ds, n5', es, em, cm, wx_bd, wx_let, wx_st, wx_lit, wx_ga, wx_sa, pk_mul, nI_add, wx_le, wx_lt, wx_eq, wx_en, wx_ne', wx_nn, wx_ltn, wx_len, wx_nlt, wx_nle, wx_bz0, wx_bz1, if_pos, if_neg, wx_ite, Nat.reduceEqDiff, eq_self, if_true, if_false, not_true_eq_false, not_false_eq_true]
        exact L
    · rcases wk_in a1 10 (9 + nj) (by omega) (by omega) with ⟨-, i2⟩ | ⟨k, k10, kn, rfl, -, i2⟩
      · refine ⟨-nI 1, σ, τ, ?_, by simp -implicitDefEqProofs (disch := omega) only [e_X12_panels, e_X12_panels__1, e_X12_panels__2, e_X12_panels__3, c2, k0, n5, i2, wx_bd, wx_let, wx_st, wx_lit, wx_ga, wx_sa, pk_mul, nI_add, wx_le, wx_lt, wx_eq, wx_en, wx_ne', wx_nn, wx_ltn, wx_len, wx_nlt, wx_nle, wx_bz0, wx_bz1, if_pos, if_neg, wx_ite, Nat.reduceEqDiff, eq_self, if_true, if_false, not_true_eq_false, not_false_eq_true], h⟩
        by_cases cl : a1 < nI 10
        · simp -implicitDefEqProofs (disch := omega) only [e_X11_panels, e_X11_panels__1, e_X11_panels__2, e_X11_panels__3, e_X11_panels__4, c1, k0, cl, wx_bd, wx_let, wx_st, wx_lit, wx_ga, wx_sa, pk_mul, nI_add, wx_le, wx_lt, wx_eq, wx_en, wx_ne', wx_nn, wx_ltn, wx_len, wx_nlt, wx_nle, wx_bz0, wx_bz1, if_pos, if_neg, wx_ite, Nat.reduceEqDiff, eq_self, if_true, if_false, not_true_eq_false, not_false_eq_true]
        · rcases wk_jdg (wb_nj hB) n5 n2 (a1 - nI 10) with ⟨j1, -⟩ | ⟨j, hj, e, -, -⟩
          · simp -implicitDefEqProofs (disch := omega) only [e_X11_panels, e_X11_panels__1, e_X11_panels__2, e_X11_panels__3, e_X11_panels__4, c1, k0, cl, j1, wx_bd, wx_let, wx_st, wx_lit, wx_ga, wx_sa, pk_mul, nI_add, wx_le, wx_lt, wx_eq, wx_en, wx_ne', wx_nn, wx_ltn, wx_len, wx_nlt, wx_nle, wx_bz0, wx_bz1, if_pos, if_neg, wx_ite, Nat.reduceEqDiff, eq_self, if_true, if_false, not_true_eq_false, not_false_eq_true]
          · have ea : a1 = nI (j + 10) := by rw [← Int32.sub_add_cancel (a := a1) (b := nI 10), e, nI_add]
            subst ea
            have := i2 τ
            simp -implicitDefEqProofs (disch := omega) only [e_X12_isIn, wx_bd, wx_let, wx_st, wx_lit, wx_ga, wx_sa, pk_mul, nI_add, wx_le, wx_lt, wx_eq, wx_en, wx_ne', wx_nn, wx_ltn, wx_len, wx_nlt, wx_nle, wx_bz0, wx_bz1, if_pos, if_neg, wx_ite, Nat.reduceEqDiff, eq_self, if_true, if_false, not_true_eq_false, not_false_eq_true] at this
            exact absurd (Prod.mk.inj (Option.some.inj this)).1 (by decide)
      · obtain ⟨j, rfl⟩ : ∃ j, k = 10 + j := ⟨k - 10, by omega⟩
        have hj : j < nj := by omega
        have e10 : nI (10 + j) - nI 10 = nI j := by
          rw [pk_sub (by omega)]; congr 1; omega
        have hasj : f_X2_has 11 (nI j) σ = some (nI 1, σ) := by
          have e5 := wb_nj hB
          simp -implicitDefEqProofs (disch := omega) only [e_X2_has, e5, wx_bd, wx_let, wx_st, wx_lit, wx_ga, wx_sa, pk_mul, nI_add, wx_le, wx_lt, wx_eq, wx_en, wx_ne', wx_nn, wx_ltn, wx_len, wx_nlt, wx_nle, wx_bz0, wx_bz1, if_pos, if_neg, wx_ite, Nat.reduceEqDiff, eq_self, if_true, if_false, not_true_eq_false, not_false_eq_true]
        have L := wl_panj n2 n5' hF hM hj (2 ^ nj) 0 wg_N (by omega) (by rw [wx_N]; omega)
        rw [wl_cntj n2 hdd hj, wcC_1, wcC_1, wcC_1, wck3 hj] at L
        rcases wl_alive hB hX.1 hj with ⟨l0, l1, -⟩ | ⟨l0, l1, -⟩
        · obtain ⟨s1, g1, g2⟩ := wl_finders hB hX.1 hV hc (o := some j) (fun i e => by cases e; exact hj) (q := 1) (by omega) nj 0 wg_N σ (by omega) (by rw [wx_N]; omega) (wSc_rfl σ)
          obtain ⟨s2, g3, g4⟩ := wl_finders hB hX.1 hV hc (o := some j) (fun i e => by cases e; exact hj) (q := 0) (by omega) nj 0 wg_N s1 (by omega) (by rw [wx_N]; omega) g2
          have q1 : f_X7_finders 280 (nI c) (nI 1) (nI j) σ = some (nI (wck (wPk τ (V c) (some j)) 1 nj), s1) := by rw [e_X7_finders]; exact g1
          have q2 : f_X7_finders 280 (nI c) (nI 0) (nI j) s1 = some (nI (wck (wPk τ (V c) (some j)) 2 nj), s2) := by rw [e_X7_finders]; exact g3
          rw [if_pos l0, Nat.mul_one] at L
          have tf : f_X7_turnsOf 280 (nI c) (nI j) σ = some (nI (wck (wPk τ (V c) (some j)) 1 nj * wck (wPk τ (V c) (some j)) 2 nj), s2) := by
            simp -implicitDefEqProofs (disch := omega) only [e_X7_turnsOf, e_X7_turnsOf__1, e_X7_turnsOf__2, e_X7_turnsOf__3, l1, q1, q2, wx_bd, wx_let, wx_st, wx_lit, wx_ga, wx_sa, pk_mul, nI_add, wx_le, wx_lt, wx_eq, wx_en, wx_ne', wx_nn, wx_ltn, wx_len, wx_nlt, wx_nle, wx_bz0, wx_bz1, if_pos, if_neg, wx_ite, Nat.reduceEqDiff, eq_self, if_true, if_false, not_true_eq_false, not_false_eq_true]
          refine ⟨nI (wck (wPk τ (V c) (some j)) 1 nj * wck (wPk τ (V c) (some j)) 2 nj), s2, τ', ?_, ?_, wR_s h g4 f2⟩
          · simp -implicitDefEqProofs (disch := omega) only [e_X11_panels, e_X11_panels__1, e_X11_panels__2, e_X11_panels__3, e_X11_panels__4, c1, e10, hasj, tf, wx_bd, wx_let, wx_st, wx_lit, wx_ga, wx_sa, pk_mul, nI_add, wx_le, wx_lt, wx_eq, wx_en, wx_ne', wx_nn, wx_ltn, wx_len, wx_nlt, wx_nle, wx_bz0, wx_bz1, if_pos, if_neg, wx_ite, Nat.reduceEqDiff, eq_self, if_true, if_false, not_true_eq_false, not_false_eq_true]
          · simp -implicitDefEqProofs (disch := omega) only [e_X12_panels, e_X12_panels__1, e_X12_panels__2, e_X12_panels__3, e_X12_panels_36, e_X12_panels_36__1, e_X12_panels_36__2, e_X12_panels_36__3, c2, n5, i2, fs, ds, n5', es, em, cm, wx_bd, wx_let, wx_st, wx_lit, wx_ga, wx_sa, pk_mul, nI_add, wx_le, wx_lt, wx_eq, wx_en, wx_ne', wx_nn, wx_ltn, wx_len, wx_nlt, wx_nle, wx_bz0, wx_bz1, if_pos, if_neg, wx_ite, Nat.reduceEqDiff, eq_self, if_true, if_false, not_true_eq_false, not_false_eq_true]
            exact L
        · rw [if_neg (by rw [l0]; decide), Nat.mul_zero] at L
          have tf : f_X7_turnsOf 280 (nI c) (nI j) σ = some (nI 0, σ) := by
            simp -implicitDefEqProofs (disch := omega) only [e_X7_turnsOf, e_X7_turnsOf__1, e_X7_turnsOf__2, e_X7_turnsOf__3, l1, wx_bd, wx_let, wx_st, wx_lit, wx_ga, wx_sa, pk_mul, nI_add, wx_le, wx_lt, wx_eq, wx_en, wx_ne', wx_nn, wx_ltn, wx_len, wx_nlt, wx_nle, wx_bz0, wx_bz1, if_pos, if_neg, wx_ite, Nat.reduceEqDiff, eq_self, if_true, if_false, not_true_eq_false, not_false_eq_true]
          refine ⟨nI 0, σ, τ', ?_, ?_, wR_s h (wSc_rfl σ) f2⟩
          · simp -implicitDefEqProofs (disch := omega) only [e_X11_panels, e_X11_panels__1, e_X11_panels__2, e_X11_panels__3, e_X11_panels__4, c1, e10, hasj, tf, wx_bd, wx_let, wx_st, wx_lit, wx_ga, wx_sa, pk_mul, nI_add, wx_le, wx_lt, wx_eq, wx_en, wx_ne', wx_nn, wx_ltn, wx_len, wx_nlt, wx_nle, wx_bz0, wx_bz1, if_pos, if_neg, wx_ite, Nat.reduceEqDiff, eq_self, if_true, if_false, not_true_eq_false, not_false_eq_true]
          · simp -implicitDefEqProofs (disch := omega) only [e_X12_panels, e_X12_panels__1, e_X12_panels__2, e_X12_panels__3, e_X12_panels_36, e_X12_panels_36__1, e_X12_panels_36__2, e_X12_panels_36__3, c2, n5, i2, fs, ds, n5', es, em, cm, wx_bd, wx_let, wx_st, wx_lit, wx_ga, wx_sa, pk_mul, nI_add, wx_le, wx_lt, wx_eq, wx_en, wx_ne', wx_nn, wx_ltn, wx_len, wx_nlt, wx_nle, wx_bz0, wx_bz1, if_pos, if_neg, wx_ite, Nat.reduceEqDiff, eq_self, if_true, if_false, not_true_eq_false, not_false_eq_true]
            exact L

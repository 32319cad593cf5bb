set_option maxHeartbeats 1000000 in
theorem ws_wig : wp_wig wR := by
  intro σ τ a0 a1 h
  have h := wR_told (nI 0) h
  simp only [e_X12_wig, wx_st, wx_lit]
  generalize wg_u τ 0 0 (nI 0) = τ at h ⊢
  obtain ⟨nw, nj, nc, hX, hY, hP, hI, hD⟩ := wR_X h
  obtain ⟨n1, n2, n3, n4, n5, n6⟩ := id hX.1
  have e8 := wb_nw hX.2.1
  rcases (show nw = 8 ∨ nw < 8 by omega) with rfl | hw
  · refine ⟨-nI 1, σ, τ, by simp -implicitDefEqProofs (disch := omega) only [e_X11_wig, e_X11_wig__1, e_X11_wig__2, e_X11_wig__3, e_X11_wig__4, e8, wx_bd, wx_let, wx_st, wx_lit, wx_ga, wx_sa, pk_mul, nI_add, wx_le, wx_lt, wx_eq, wx_en, wx_ne', wx_nn, wx_ltn, wx_len, wx_nlt, wx_nle, wx_bz0, wx_bz1, if_pos, if_neg, wx_ite, Nat.reduceEqDiff, eq_self, if_true, if_false, not_true_eq_false, not_false_eq_true], ?_, h⟩
    rcases wk_in a0 0 2 (by omega) (by omega) with ⟨i1, i2⟩ | ⟨k, -, -, rfl, i1, i2⟩
    · simp -implicitDefEqProofs (disch := omega) only [e_X12_wig, e_X12_wig__1, e_X12_wig__2, e_X12_wig__3, e_X12_wig__4, e_X12_wig__5, e_X12_wig__6, e_X12_wig__7, e_X12_wig__8, e_X12_wig__9, e_X12_wig__10, i2, wx_bd, wx_let, wx_st, wx_lit, wx_ga, wx_sa, pk_mul, nI_add, wx_le, wx_lt, wx_eq, wx_en, wx_ne', wx_nn, wx_ltn, wx_len, wx_nlt, wx_nle, wx_bz0, wx_bz1, if_pos, if_neg, wx_ite, Nat.reduceEqDiff, eq_self, if_true, if_false, not_true_eq_false, not_false_eq_true]
    · rcases wk_in a1 0 99 (by omega) (by omega) with ⟨j1, j2⟩ | ⟨k, -, -, rfl, j1, j2⟩
      · simp -implicitDefEqProofs (disch := omega) only [e_X12_wig, e_X12_wig__1, e_X12_wig__2, e_X12_wig__3, e_X12_wig__4, e_X12_wig__5, e_X12_wig__6, e_X12_wig__7, e_X12_wig__8, e_X12_wig__9, e_X12_wig__10, i2, j2, wx_bd, wx_let, wx_st, wx_lit, wx_ga, wx_sa, pk_mul, nI_add, wx_le, wx_lt, wx_eq, wx_en, wx_ne', wx_nn, wx_ltn, wx_len, wx_nlt, wx_nle, wx_bz0, wx_bz1, if_pos, if_neg, wx_ite, Nat.reduceEqDiff, eq_self, if_true, if_false, not_true_eq_false, not_false_eq_true]
      · simp -implicitDefEqProofs (disch := omega) only [e_X12_wig, e_X12_wig__1, e_X12_wig__2, e_X12_wig__3, e_X12_wig__4, e_X12_wig__5, e_X12_wig__6, e_X12_wig__7, e_X12_wig__8, e_X12_wig__9, e_X12_wig__10, i2, j2, n4, wx_bd, wx_let, wx_st, wx_lit, wx_ga, wx_sa, pk_mul, nI_add, wx_le, wx_lt, wx_eq, wx_en, wx_ne', wx_nn, wx_ltn, wx_len, wx_nlt, wx_nle, wx_bz0, wx_bz1, if_pos, if_neg, wx_ite, Nat.reduceEqDiff, eq_self, if_true, if_false, not_true_eq_false, not_false_eq_true]
  · rcases wk_in a0 0 2 (by omega) (by omega) with ⟨i1, i2⟩ | ⟨k, -, -, rfl, i1, i2⟩
    · exact ⟨-nI 1, σ, τ, by simp -implicitDefEqProofs (disch := omega) only [e_X11_wig, e_X11_wig__1, e_X11_wig__2, e_X11_wig__3, e_X11_wig__4, e8, i1, wx_bd, wx_let, wx_st, wx_lit, wx_ga, wx_sa, pk_mul, nI_add, wx_le, wx_lt, wx_eq, wx_en, wx_ne', wx_nn, wx_ltn, wx_len, wx_nlt, wx_nle, wx_bz0, wx_bz1, if_pos, if_neg, wx_ite, Nat.reduceEqDiff, eq_self, if_true, if_false, not_true_eq_false, not_false_eq_true], by simp -implicitDefEqProofs (disch := omega) only [e_X12_wig, e_X12_wig__1, e_X12_wig__2, e_X12_wig__3, e_X12_wig__4, e_X12_wig__5, e_X12_wig__6, e_X12_wig__7, e_X12_wig__8, e_X12_wig__9, e_X12_wig__10, i2, wx_bd, wx_let, wx_st, wx_lit, wx_ga, wx_sa, pk_mul, nI_add, wx_le, wx_lt, wx_eq, wx_en, wx_ne', wx_nn, wx_ltn, wx_len, wx_nlt, wx_nle, wx_bz0, wx_bz1, if_pos, if_neg, wx_ite, Nat.reduceEqDiff, eq_self, if_true, if_false, not_true_eq_false, not_false_eq_true], h⟩
    · rcases wk_in a1 0 99 (by omega) (by omega) with ⟨j1, j2⟩ | ⟨y, -, -, rfl, j1, j2⟩
      · exact ⟨-nI 1, σ, τ, by simp -implicitDefEqProofs (disch := omega) only [e_X11_wig, e_X11_wig__1, e_X11_wig__2, e_X11_wig__3, e_X11_wig__4, e8, i1, j1, wx_bd, wx_let, wx_st, wx_lit, wx_ga, wx_sa, pk_mul, nI_add, wx_le, wx_lt, wx_eq, wx_en, wx_ne', wx_nn, wx_ltn, wx_len, wx_nlt, wx_nle, wx_bz0, wx_bz1, if_pos, if_neg, wx_ite, Nat.reduceEqDiff, eq_self, if_true, if_false, not_true_eq_false, not_false_eq_true], by simp -implicitDefEqProofs (disch := omega) only [e_X12_wig, e_X12_wig__1, e_X12_wig__2, e_X12_wig__3, e_X12_wig__4, e_X12_wig__5, e_X12_wig__6, e_X12_wig__7, e_X12_wig__8, e_X12_wig__9, e_X12_wig__10, i2, j2, wx_bd, wx_let, wx_st, wx_lit, wx_ga, wx_sa, pk_mul, nI_add, wx_le, wx_lt, wx_eq, wx_en, wx_ne', wx_nn, wx_ltn, wx_len, wx_nlt, wx_nle, wx_bz0, wx_bz1, if_pos, if_neg, wx_ite, Nat.reduceEqDiff, eq_self, if_true, if_false, not_true_eq_false, not_false_eq_true], h⟩
      · have X1 : wX false nw nj nc (wg_u σ 258 2 (nI 0)) τ := wX_r hX (fun a q => wx_un (by omega)) (fun _ _ => rfl) (fun _ _ _ => rfl)
        have X2 := wl_newW X1 hw (nI k) (nI y)
        have es : nI (nw + 1) - nI 1 = nI nw := pk_sub (by omega)
        refine ⟨nI nw, _, wg_u _ 0 3 (nI 0), ?_, ?_, wR_fg (wX_r X2 (fun _ _ => rfl) (fun i hi => by rw [wx_uk, pk_un hi]) (fun a q1 q2 => wx_un q1)) (wY_fr ?_ hY) ?_ ?_ ?_ hI hD ?_ ?_ ?_ ?_ ?_⟩
        · simp -implicitDefEqProofs (disch := omega) only [e_X11_wig, e_X11_wig__1, e_X11_wig__2, e_X11_wig__3, e_X11_wig__4, e8, i1, j1, e_X5_forget, e_X5_forget__1, e_X9_add, e_X9_add__1, e_X9_add__2, e_X9_add__3, e_X9_add__4, e_X9_add__5, e_X9_add__6, es, wx_uk, wx_un, pk_us, pk_un, wx_bd, wx_let, wx_st, wx_lit, wx_ga, wx_sa, pk_mul, nI_add, wx_le, wx_lt, wx_eq, wx_en, wx_ne', wx_nn, wx_ltn, wx_len, wx_nlt, wx_nle, wx_bz0, wx_bz1, if_pos, if_neg, wx_ite, Nat.reduceEqDiff, eq_self, if_true, if_false, not_true_eq_false, not_false_eq_true]
        · simp -implicitDefEqProofs (disch := omega) only [e_X12_wig, e_X12_wig__1, e_X12_wig__2, e_X12_wig__3, e_X12_wig__4, e_X12_wig__5, e_X12_wig__6, e_X12_wig__7, e_X12_wig__8, e_X12_wig__9, e_X12_wig__10, i2, j2, n4, es, wx_uk, wx_un, pk_us, pk_un, wx_bd, wx_let, wx_st, wx_lit, wx_ga, wx_sa, pk_mul, nI_add, wx_le, wx_lt, wx_eq, wx_en, wx_ne', wx_nn, wx_ltn, wx_len, wx_nlt, wx_nle, wx_bz0, wx_bz1, if_pos, if_neg, wx_ite, Nat.reduceEqDiff, eq_self, if_true, if_false, not_true_eq_false, not_false_eq_true]
        · simp -implicitDefEqProofs (disch := omega) only [wx_uk, wx_un, pk_us, pk_un]
        · obtain ⟨n, nx, p1, p2, p3, p4, -⟩ := hP
          exact ⟨nx, p2, by simp -implicitDefEqProofs (disch := omega) only [wx_uk, wx_un, pk_us, pk_un]; exact p4⟩
        · simp -implicitDefEqProofs (disch := omega) only [wx_uk, wx_un, pk_us, pk_un]
        · simp -implicitDefEqProofs (disch := omega) only [wx_uk, wx_un, pk_us, pk_un]
        · intro a q1 q2; simp -implicitDefEqProofs (disch := omega) only [wx_uk, wx_un, pk_us, pk_un]
        · intro i q1; simp -implicitDefEqProofs (disch := omega) only [wx_uk, wx_un, pk_us, pk_un]
        · simp -implicitDefEqProofs (disch := omega) only [wx_uk, wx_un, pk_us, pk_un]
        · simp -implicitDefEqProofs (disch := omega) only [wx_uk, wx_un, pk_us, pk_un]
        · simp -implicitDefEqProofs (disch := omega) only [wx_uk, wx_un, pk_us, pk_un]
set_option maxHeartbeats 1000000 in
theorem ws_judge : wp_judge wR := by
  intro σ τ a0 a1 h
  have h := wR_told (nI 0) h
  simp only [e_X12_judge, wx_st, wx_lit]
  generalize wg_u τ 0 0 (nI 0) = τ at h ⊢
  obtain ⟨nw, nj, nc, hX, hY, hP, hI, hD⟩ := wR_X h
  obtain ⟨n1, n2, n3, n4, n5, n6⟩ := id hX.1
  have e8 := wb_nj hX.2.1
  rcases (show nj = 10 ∨ nj < 10 by omega) with rfl | hw
  · refine ⟨-nI 1, σ, τ, by simp -implicitDefEqProofs (disch := omega) only [e_X11_judge, e_X11_judge__1, e_X11_judge__2, e_X11_judge__3, e_X11_judge__4, e8, wx_bd, wx_let, wx_st, wx_lit, wx_ga, wx_sa, pk_mul, nI_add, wx_le, wx_lt, wx_eq, wx_en, wx_ne', wx_nn, wx_ltn, wx_len, wx_nlt, wx_nle, wx_bz0, wx_bz1, if_pos, if_neg, wx_ite, Nat.reduceEqDiff, eq_self, if_true, if_false, not_true_eq_false, not_false_eq_true], ?_, h⟩
    rcases wk_in a0 0 120 (by omega) (by omega) with ⟨i1, i2⟩ | ⟨k, -, -, rfl, i1, i2⟩
    · simp -implicitDefEqProofs (disch := omega) only [e_X12_judge, e_X12_judge__1, e_X12_judge__2, e_X12_judge__3, e_X12_judge__4, e_X12_judge__5, e_X12_judge__6, e_X12_judge__7, e_X12_judge__8, e_X12_judge__9, e_X12_judge__10, i2, wx_bd, wx_let, wx_st, wx_lit, wx_ga, wx_sa, pk_mul, nI_add, wx_le, wx_lt, wx_eq, wx_en, wx_ne', wx_nn, wx_ltn, wx_len, wx_nlt, wx_nle, wx_bz0, wx_bz1, if_pos, if_neg, wx_ite, Nat.reduceEqDiff, eq_self, if_true, if_false, not_true_eq_false, not_false_eq_true]
    · rcases wk_inn a1 9 9 (by omega) (by omega) with ⟨j1, j2⟩ | ⟨-, -, j1, j2⟩
      · simp -implicitDefEqProofs (disch := omega) only [e_X12_judge, e_X12_judge__1, e_X12_judge__2, e_X12_judge__3, e_X12_judge__4, e_X12_judge__5, e_X12_judge__6, e_X12_judge__7, e_X12_judge__8, e_X12_judge__9, e_X12_judge__10, i2, j2, wx_bd, wx_let, wx_st, wx_lit, wx_ga, wx_sa, pk_mul, nI_add, wx_le, wx_lt, wx_eq, wx_en, wx_ne', wx_nn, wx_ltn, wx_len, wx_nlt, wx_nle, wx_bz0, wx_bz1, if_pos, if_neg, wx_ite, Nat.reduceEqDiff, eq_self, if_true, if_false, not_true_eq_false, not_false_eq_true]
      · simp -implicitDefEqProofs (disch := omega) only [e_X12_judge, e_X12_judge__1, e_X12_judge__2, e_X12_judge__3, e_X12_judge__4, e_X12_judge__5, e_X12_judge__6, e_X12_judge__7, e_X12_judge__8, e_X12_judge__9, e_X12_judge__10, i2, j2, n5, wx_bd, wx_let, wx_st, wx_lit, wx_ga, wx_sa, pk_mul, nI_add, wx_le, wx_lt, wx_eq, wx_en, wx_ne', wx_nn, wx_ltn, wx_len, wx_nlt, wx_nle, wx_bz0, wx_bz1, if_pos, if_neg, wx_ite, Nat.reduceEqDiff, eq_self, if_true, if_false, not_true_eq_false, not_false_eq_true]
  · rcases wk_in a0 0 120 (by omega) (by omega) with ⟨i1, i2⟩ | ⟨k, -, -, rfl, i1, i2⟩
    · exact ⟨-nI 1, σ, τ, by simp -implicitDefEqProofs (disch := omega) only [e_X11_judge, e_X11_judge__1, e_X11_judge__2, e_X11_judge__3, e_X11_judge__4, e8, i1, wx_bd, wx_let, wx_st, wx_lit, wx_ga, wx_sa, pk_mul, nI_add, wx_le, wx_lt, wx_eq, wx_en, wx_ne', wx_nn, wx_ltn, wx_len, wx_nlt, wx_nle, wx_bz0, wx_bz1, if_pos, if_neg, wx_ite, Nat.reduceEqDiff, eq_self, if_true, if_false, not_true_eq_false, not_false_eq_true], by simp -implicitDefEqProofs (disch := omega) only [e_X12_judge, e_X12_judge__1, e_X12_judge__2, e_X12_judge__3, e_X12_judge__4, e_X12_judge__5, e_X12_judge__6, e_X12_judge__7, e_X12_judge__8, e_X12_judge__9, e_X12_judge__10, i2, wx_bd, wx_let, wx_st, wx_lit, wx_ga, wx_sa, pk_mul, nI_add, wx_le, wx_lt, wx_eq, wx_en, wx_ne', wx_nn, wx_ltn, wx_len, wx_nlt, wx_nle, wx_bz0, wx_bz1, if_pos, if_neg, wx_ite, Nat.reduceEqDiff, eq_self, if_true, if_false, not_true_eq_false, not_false_eq_true], h⟩
    · rcases wk_inn a1 9 9 (by omega) (by omega) with ⟨j1, j2⟩ | ⟨-, -, j1, j2⟩
      · exact ⟨-nI 1, σ, τ, by simp -implicitDefEqProofs (disch := omega) only [e_X11_judge, e_X11_judge__1, e_X11_judge__2, e_X11_judge__3, e_X11_judge__4, e8, i1, j1, wx_bd, wx_let, wx_st, wx_lit, wx_ga, wx_sa, pk_mul, nI_add, wx_le, wx_lt, wx_eq, wx_en, wx_ne', wx_nn, wx_ltn, wx_len, wx_nlt, wx_nle, wx_bz0, wx_bz1, if_pos, if_neg, wx_ite, Nat.reduceEqDiff, eq_self, if_true, if_false, not_true_eq_false, not_false_eq_true], by simp -implicitDefEqProofs (disch := omega) only [e_X12_judge, e_X12_judge__1, e_X12_judge__2, e_X12_judge__3, e_X12_judge__4, e_X12_judge__5, e_X12_judge__6, e_X12_judge__7, e_X12_judge__8, e_X12_judge__9, e_X12_judge__10, i2, j2, wx_bd, wx_let, wx_st, wx_lit, wx_ga, wx_sa, pk_mul, nI_add, wx_le, wx_lt, wx_eq, wx_en, wx_ne', wx_nn, wx_ltn, wx_len, wx_nlt, wx_nle, wx_bz0, wx_bz1, if_pos, if_neg, wx_ite, Nat.reduceEqDiff, eq_self, if_true, if_false, not_true_eq_false, not_false_eq_true], h⟩
      · have X1 : wX false nw nj nc (wg_u σ 258 2 (nI 0)) τ := wX_r hX (fun a q => wx_un (by omega)) (fun _ _ => rfl) (fun _ _ _ => rfl)
        have X2 := wl_newJ X1 hw (nI k) a1
        have es : nI (nj + 1) - nI 1 = nI nj := pk_sub (by omega)
        refine ⟨nI nj, _, wg_u _ 0 3 (nI 0), ?_, ?_, wR_fg (wX_r X2 (fun _ _ => rfl) (fun i hi => by rw [wx_uk, pk_un hi]) (fun a q1 q2 => wx_un q1)) (wY_fr ?_ hY) ?_ ?_ ?_ hI hD ?_ ?_ ?_ ?_ ?_⟩
        · simp -implicitDefEqProofs (disch := omega) only [e_X11_judge, e_X11_judge__1, e_X11_judge__2, e_X11_judge__3, e_X11_judge__4, e8, i1, j1, e_X5_forget, e_X5_forget__1, e_X2_add, e_X2_add__1, e_X2_add__2, e_X2_add__3, e_X2_add__4, e_X2_add__5, e_X2_add__6, es, wx_uk, wx_un, pk_us, pk_un, wx_bd, wx_let, wx_st, wx_lit, wx_ga, wx_sa, pk_mul, nI_add, wx_le, wx_lt, wx_eq, wx_en, wx_ne', wx_nn, wx_ltn, wx_len, wx_nlt, wx_nle, wx_bz0, wx_bz1, if_pos, if_neg, wx_ite, Nat.reduceEqDiff, eq_self, if_true, if_false, not_true_eq_false, not_false_eq_true]
        · simp -implicitDefEqProofs (disch := omega) only [e_X12_judge, e_X12_judge__1, e_X12_judge__2, e_X12_judge__3, e_X12_judge__4, e_X12_judge__5, e_X12_judge__6, e_X12_judge__7, e_X12_judge__8, e_X12_judge__9, e_X12_judge__10, i2, j2, n5, es, wx_uk, wx_un, pk_us, pk_un, wx_bd, wx_let, wx_st, wx_lit, wx_ga, wx_sa, pk_mul, nI_add, wx_le, wx_lt, wx_eq, wx_en, wx_ne', wx_nn, wx_ltn, wx_len, wx_nlt, wx_nle, wx_bz0, wx_bz1, if_pos, if_neg, wx_ite, Nat.reduceEqDiff, eq_self, if_true, if_false, not_true_eq_false, not_false_eq_true]
        · simp -implicitDefEqProofs (disch := omega) only [wx_uk, wx_un, pk_us, pk_un]
        · obtain ⟨n, nx, p1, p2, p3, p4, -⟩ := hP
          exact ⟨nx, p2, by simp -implicitDefEqProofs (disch := omega) only [wx_uk, wx_un, pk_us, pk_un]; exact p4⟩
        · simp -implicitDefEqProofs (disch := omega) only [wx_uk, wx_un, pk_us, pk_un]
        · simp -implicitDefEqProofs (disch := omega) only [wx_uk, wx_un, pk_us, pk_un]
        · intro a q1 q2; simp -implicitDefEqProofs (disch := omega) only [wx_uk, wx_un, pk_us, pk_un]
        · intro i q1; simp -implicitDefEqProofs (disch := omega) only [wx_uk, wx_un, pk_us, pk_un]
        · simp -implicitDefEqProofs (disch := omega) only [wx_uk, wx_un, pk_us, pk_un]
        · simp -implicitDefEqProofs (disch := omega) only [wx_uk, wx_un, pk_us, pk_un]
        · simp -implicitDefEqProofs (disch := omega) only [wx_uk, wx_un, pk_us, pk_un]
set_option maxHeartbeats 1000000 in
theorem ws_trial : wp_trial wR := by
  intro σ τ a0 a1 h
  have h := wR_told (nI 0) h
  simp only [e_X12_trial, wx_st, wx_lit]
  generalize wg_u τ 0 0 (nI 0) = τ at h ⊢
  obtain ⟨nw, nj, nc, hX, hY, hP, hI, hD⟩ := wR_X h
  obtain ⟨n1, n2, n3, n4, n5, n6⟩ := id hX.1
  have e8 := wb_nc hX.2.1
  rcases (show nc = 14 ∨ nc < 14 by omega) with rfl | hw
  · refine ⟨-nI 1, σ, τ, by simp -implicitDefEqProofs (disch := omega) only [e_X11_trial, e_X11_trial__1, e_X11_trial__2, e_X11_trial__3, e_X11_trial__4, e8, wx_bd, wx_let, wx_st, wx_lit, wx_ga, wx_sa, pk_mul, nI_add, wx_le, wx_lt, wx_eq, wx_en, wx_ne', wx_nn, wx_ltn, wx_len, wx_nlt, wx_nle, wx_bz0, wx_bz1, if_pos, if_neg, wx_ite, Nat.reduceEqDiff, eq_self, if_true, if_false, not_true_eq_false, not_false_eq_true], ?_, h⟩
    rcases wk_in a0 0 7 (by omega) (by omega) with ⟨i1, i2⟩ | ⟨k, -, -, rfl, i1, i2⟩
    · simp -implicitDefEqProofs (disch := omega) only [e_X12_trial, e_X12_trial__1, e_X12_trial__2, e_X12_trial__3, e_X12_trial__4, e_X12_trial__5, e_X12_trial__6, e_X12_trial__7, e_X12_trial__8, e_X12_trial__9, i2, wx_bd, wx_let, wx_st, wx_lit, wx_ga, wx_sa, pk_mul, nI_add, wx_le, wx_lt, wx_eq, wx_en, wx_ne', wx_nn, wx_ltn, wx_len, wx_nlt, wx_nle, wx_bz0, wx_bz1, if_pos, if_neg, wx_ite, Nat.reduceEqDiff, eq_self, if_true, if_false, not_true_eq_false, not_false_eq_true]
    · rcases wk_inn a1 99 99 (by omega) (by omega) with ⟨j1, j2⟩ | ⟨-, -, j1, j2⟩
      · simp -implicitDefEqProofs (disch := omega) only [e_X12_trial, e_X12_trial__1, e_X12_trial__2, e_X12_trial__3, e_X12_trial__4, e_X12_trial__5, e_X12_trial__6, e_X12_trial__7, e_X12_trial__8, e_X12_trial__9, i2, j2, wx_bd, wx_let, wx_st, wx_lit, wx_ga, wx_sa, pk_mul, nI_add, wx_le, wx_lt, wx_eq, wx_en, wx_ne', wx_nn, wx_ltn, wx_len, wx_nlt, wx_nle, wx_bz0, wx_bz1, if_pos, if_neg, wx_ite, Nat.reduceEqDiff, eq_self, if_true, if_false, not_true_eq_false, not_false_eq_true]
      · simp -implicitDefEqProofs (disch := omega) only [e_X12_trial, e_X12_trial__1, e_X12_trial__2, e_X12_trial__3, e_X12_trial__4, e_X12_trial__5, e_X12_trial__6, e_X12_trial__7, e_X12_trial__8, e_X12_trial__9, i2, j2, n6, wx_bd, wx_let, wx_st, wx_lit, wx_ga, wx_sa, pk_mul, nI_add, wx_le, wx_lt, wx_eq, wx_en, wx_ne', wx_nn, wx_ltn, wx_len, wx_nlt, wx_nle, wx_bz0, wx_bz1, if_pos, if_neg, wx_ite, Nat.reduceEqDiff, eq_self, if_true, if_false, not_true_eq_false, not_false_eq_true]
  · rcases wk_in a0 0 7 (by omega) (by omega) with ⟨i1, i2⟩ | ⟨k, -, k7, rfl, i1, i2⟩
    · exact ⟨-nI 1, σ, τ, by simp -implicitDefEqProofs (disch := omega) only [e_X11_trial, e_X11_trial__1, e_X11_trial__2, e_X11_trial__3, e_X11_trial__4, e8, i1, wx_bd, wx_let, wx_st, wx_lit, wx_ga, wx_sa, pk_mul, nI_add, wx_le, wx_lt, wx_eq, wx_en, wx_ne', wx_nn, wx_ltn, wx_len, wx_nlt, wx_nle, wx_bz0, wx_bz1, if_pos, if_neg, wx_ite, Nat.reduceEqDiff, eq_self, if_true, if_false, not_true_eq_false, not_false_eq_true], by simp -implicitDefEqProofs (disch := omega) only [e_X12_trial, e_X12_trial__1, e_X12_trial__2, e_X12_trial__3, e_X12_trial__4, e_X12_trial__5, e_X12_trial__6, e_X12_trial__7, e_X12_trial__8, e_X12_trial__9, i2, wx_bd, wx_let, wx_st, wx_lit, wx_ga, wx_sa, pk_mul, nI_add, wx_le, wx_lt, wx_eq, wx_en, wx_ne', wx_nn, wx_ltn, wx_len, wx_nlt, wx_nle, wx_bz0, wx_bz1, if_pos, if_neg, wx_ite, Nat.reduceEqDiff, eq_self, if_true, if_false, not_true_eq_false, not_false_eq_true], h⟩
    · rcases wk_inn a1 99 99 (by omega) (by omega) with ⟨j1, j2⟩ | ⟨-, -, j1, j2⟩
      · exact ⟨-nI 1, σ, τ, by simp -implicitDefEqProofs (disch := omega) only [e_X11_trial, e_X11_trial__1, e_X11_trial__2, e_X11_trial__3, e_X11_trial__4, e8, i1, j1, wx_bd, wx_let, wx_st, wx_lit, wx_ga, wx_sa, pk_mul, nI_add, wx_le, wx_lt, wx_eq, wx_en, wx_ne', wx_nn, wx_ltn, wx_len, wx_nlt, wx_nle, wx_bz0, wx_bz1, if_pos, if_neg, wx_ite, Nat.reduceEqDiff, eq_self, if_true, if_false, not_true_eq_false, not_false_eq_true], by simp -implicitDefEqProofs (disch := omega) only [e_X12_trial, e_X12_trial__1, e_X12_trial__2, e_X12_trial__3, e_X12_trial__4, e_X12_trial__5, e_X12_trial__6, e_X12_trial__7, e_X12_trial__8, e_X12_trial__9, i2, j2, wx_bd, wx_let, wx_st, wx_lit, wx_ga, wx_sa, pk_mul, nI_add, wx_le, wx_lt, wx_eq, wx_en, wx_ne', wx_nn, wx_ltn, wx_len, wx_nlt, wx_nle, wx_bz0, wx_bz1, if_pos, if_neg, wx_ite, Nat.reduceEqDiff, eq_self, if_true, if_false, not_true_eq_false, not_false_eq_true], h⟩
      · have X1 : wX false nw nj nc (wg_u σ 258 2 (nI 0)) τ := wX_r hX (fun a q => wx_un (by omega)) (fun _ _ => rfl) (fun _ _ _ => rfl)
        have X2 := wl_newC X1 hw (show k < 8 by omega) a1
        have es : nI (nc + 1) - nI 1 = nI nc := pk_sub (by omega)
        refine ⟨nI nc, _, wg_u _ 0 3 (nI 0), ?_, ?_, wR_fg (wX_r X2 (fun _ _ => rfl) (fun i hi => by rw [wx_uk, pk_un hi]) (fun a q1 q2 => wx_un q1)) (wY_fr ?_ hY) ?_ ?_ ?_ hI hD ?_ ?_ ?_ ?_ ?_⟩
        · simp -implicitDefEqProofs (disch := omega) only [e_X11_trial, e_X11_trial__1, e_X11_trial__2, e_X11_trial__3, e_X11_trial__4, e8, i1, j1, e_X5_forget, e_X5_forget__1, e_X0_addCase, e_X0_addCase__1, e_X0_addCase__2, e_X0_addCase__3, e_X0_addCase__4, e_X0_addCase__5, es, wx_uk, wx_un, pk_us, pk_un, wx_bd, wx_let, wx_st, wx_lit, wx_ga, wx_sa, pk_mul, nI_add, wx_le, wx_lt, wx_eq, wx_en, wx_ne', wx_nn, wx_ltn, wx_len, wx_nlt, wx_nle, wx_bz0, wx_bz1, if_pos, if_neg, wx_ite, Nat.reduceEqDiff, eq_self, if_true, if_false, not_true_eq_false, not_false_eq_true]
        · simp -implicitDefEqProofs (disch := omega) only [e_X12_trial, e_X12_trial__1, e_X12_trial__2, e_X12_trial__3, e_X12_trial__4, e_X12_trial__5, e_X12_trial__6, e_X12_trial__7, e_X12_trial__8, e_X12_trial__9, i2, j2, n6, es, wx_uk, wx_un, pk_us, pk_un, wx_bd, wx_let, wx_st, wx_lit, wx_ga, wx_sa, pk_mul, nI_add, wx_le, wx_lt, wx_eq, wx_en, wx_ne', wx_nn, wx_ltn, wx_len, wx_nlt, wx_nle, wx_bz0, wx_bz1, if_pos, if_neg, wx_ite, Nat.reduceEqDiff, eq_self, if_true, if_false, not_true_eq_false, not_false_eq_true]
        · simp -implicitDefEqProofs (disch := omega) only [wx_uk, wx_un, pk_us, pk_un]
        · obtain ⟨n, nx, p1, p2, p3, p4, -⟩ := hP
          exact ⟨nx, p2, by simp -implicitDefEqProofs (disch := omega) only [wx_uk, wx_un, pk_us, pk_un]; exact p4⟩
        · simp -implicitDefEqProofs (disch := omega) only [wx_uk, wx_un, pk_us, pk_un]
        · simp -implicitDefEqProofs (disch := omega) only [wx_uk, wx_un, pk_us, pk_un]
        · intro a q1 q2; simp -implicitDefEqProofs (disch := omega) only [wx_uk, wx_un, pk_us, pk_un]
        · intro i q1; simp -implicitDefEqProofs (disch := omega) only [wx_uk, wx_un, pk_us, pk_un]
        · simp -implicitDefEqProofs (disch := omega) only [wx_uk, wx_un, pk_us, pk_un]
        · simp -implicitDefEqProofs (disch := omega) only [wx_uk, wx_un, pk_us, pk_un]
        · simp -implicitDefEqProofs (disch := omega) only [wx_uk, wx_un, pk_us, pk_un]
set_option maxHeartbeats 1000000 in
theorem ws_rule : wp_rule wR := by
  intro σ τ a0 a1 a2 a3 h
  have h := wR_told (nI 0) h
  simp only [e_X12_rule, wx_st, wx_lit]
  generalize wg_u τ 0 0 (nI 0) = τ at h ⊢
  obtain ⟨nw, nj, nc, hX, hY, hP, hI, hD⟩ := wR_X h
  obtain ⟨n1, n2, n3, n4, n5, n6⟩ := id hX.1
  rcases wk_wig (wb_nw hX.2.1) n4 n1 a0 with ⟨c1, c2⟩ | ⟨w, hw, rfl, c1, c2⟩
  · exact ⟨-nI 1, σ, τ, by simp -implicitDefEqProofs (disch := omega) only [e_X11_rule, e_X11_rule__1, e_X11_rule__2, e_X11_rule__3, e_X11_rule__4, e_X11_rule__5, e_X11_rule__6, e_X11_rule__7, e_X11_rule__8, c1, wx_bd, wx_let, wx_st, wx_lit, wx_ga, wx_sa, pk_mul, nI_add, wx_le, wx_lt, wx_eq, wx_en, wx_ne', wx_nn, wx_ltn, wx_len, wx_nlt, wx_nle, wx_bz0, wx_bz1, if_pos, if_neg, wx_ite, Nat.reduceEqDiff, eq_self, if_true, if_false, not_true_eq_false, not_false_eq_true], by simp -implicitDefEqProofs (disch := omega) only [e_X12_rule, e_X12_rule__1, e_X12_rule__2, e_X12_rule__3, e_X12_rule__4, e_X12_rule__5, e_X12_rule__6, e_X12_rule__7, e_X12_rule__8, e_X12_rule__9, c2, wx_bd, wx_let, wx_st, wx_lit, wx_ga, wx_sa, pk_mul, nI_add, wx_le, wx_lt, wx_eq, wx_en, wx_ne', wx_nn, wx_ltn, wx_len, wx_nlt, wx_nle, wx_bz0, wx_bz1, if_pos, if_neg, wx_ite, Nat.reduceEqDiff, eq_self, if_true, if_false, not_true_eq_false, not_false_eq_true], h⟩
  · obtain ⟨k, k8, hk, hru⟩ := wb_k hX.2.1 hw
    have e7 := wb_rules hX.2.1 hw
    rw [hk] at e7
    rcases wk_in a1 0 7 (by omega) (by omega) with ⟨i1, i2⟩ | ⟨c, -, c7, rfl, i1, i2⟩
    · refine ⟨-nI 1, σ, τ, ?_, by simp -implicitDefEqProofs (disch := omega) only [e_X12_rule, e_X12_rule__1, e_X12_rule__2, e_X12_rule__3, e_X12_rule__4, e_X12_rule__5, e_X12_rule__6, e_X12_rule__7, e_X12_rule__8, e_X12_rule__9, c2, i2, wx_bd, wx_let, wx_st, wx_lit, wx_ga, wx_sa, pk_mul, nI_add, wx_le, wx_lt, wx_eq, wx_en, wx_ne', wx_nn, wx_ltn, wx_len, wx_nlt, wx_nle, wx_bz0, wx_bz1, if_pos, if_neg, wx_ite, Nat.reduceEqDiff, eq_self, if_true, if_false, not_true_eq_false, not_false_eq_true], h⟩
      rcases (show k = 8 ∨ k < 8 by omega) with rfl | hk8 <;> simp -implicitDefEqProofs (disch := omega) only [e_X11_rule, e_X11_rule__1, e_X11_rule__2, e_X11_rule__3, e_X11_rule__4, e_X11_rule__5, e_X11_rule__6, e_X11_rule__7, e_X11_rule__8, c1, e7, i1, wx_bd, wx_let, wx_st, wx_lit, wx_ga, wx_sa, pk_mul, nI_add, wx_le, wx_lt, wx_eq, wx_en, wx_ne', wx_nn, wx_ltn, wx_len, wx_nlt, wx_nle, wx_bz0, wx_bz1, if_pos, if_neg, wx_ite, Nat.reduceEqDiff, eq_self, if_true, if_false, not_true_eq_false, not_false_eq_true]
    · rcases wk_inn a2 9 9 (by omega) (by omega) with ⟨j1, j2⟩ | ⟨v1, v2, j1, j2⟩
      · refine ⟨-nI 1, σ, τ, ?_, by simp -implicitDefEqProofs (disch := omega) only [e_X12_rule, e_X12_rule__1, e_X12_rule__2, e_X12_rule__3, e_X12_rule__4, e_X12_rule__5, e_X12_rule__6, e_X12_rule__7, e_X12_rule__8, e_X12_rule__9, c2, i2, j2, wx_bd, wx_let, wx_st, wx_lit, wx_ga, wx_sa, pk_mul, nI_add, wx_le, wx_lt, wx_eq, wx_en, wx_ne', wx_nn, wx_ltn, wx_len, wx_nlt, wx_nle, wx_bz0, wx_bz1, if_pos, if_neg, wx_ite, Nat.reduceEqDiff, eq_self, if_true, if_false, not_true_eq_false, not_false_eq_true], h⟩
        rcases (show k = 8 ∨ k < 8 by omega) with rfl | hk8 <;> simp -implicitDefEqProofs (disch := omega) only [e_X11_rule, e_X11_rule__1, e_X11_rule__2, e_X11_rule__3, e_X11_rule__4, e_X11_rule__5, e_X11_rule__6, e_X11_rule__7, e_X11_rule__8, c1, e7, i1, j1, wx_bd, wx_let, wx_st, wx_lit, wx_ga, wx_sa, pk_mul, nI_add, wx_le, wx_lt, wx_eq, wx_en, wx_ne', wx_nn, wx_ltn, wx_len, wx_nlt, wx_nle, wx_bz0, wx_bz1, if_pos, if_neg, wx_ite, Nat.reduceEqDiff, eq_self, if_true, if_false, not_true_eq_false, not_false_eq_true]
      · rcases wk_in a3 1 99 (by omega) (by omega) with ⟨g1, g2⟩ | ⟨g, g3, g4, rfl, g1, g2⟩
        · refine ⟨-nI 1, σ, τ, ?_, by simp -implicitDefEqProofs (disch := omega) only [e_X12_rule, e_X12_rule__1, e_X12_rule__2, e_X12_rule__3, e_X12_rule__4, e_X12_rule__5, e_X12_rule__6, e_X12_rule__7, e_X12_rule__8, e_X12_rule__9, c2, i2, j2, g2, wx_bd, wx_let, wx_st, wx_lit, wx_ga, wx_sa, pk_mul, nI_add, wx_le, wx_lt, wx_eq, wx_en, wx_ne', wx_nn, wx_ltn, wx_len, wx_nlt, wx_nle, wx_bz0, wx_bz1, if_pos, if_neg, wx_ite, Nat.reduceEqDiff, eq_self, if_true, if_false, not_true_eq_false, not_false_eq_true], h⟩
          rcases (show k = 8 ∨ k < 8 by omega) with rfl | hk8 <;> simp -implicitDefEqProofs (disch := omega) only [e_X11_rule, e_X11_rule__1, e_X11_rule__2, e_X11_rule__3, e_X11_rule__4, e_X11_rule__5, e_X11_rule__6, e_X11_rule__7, e_X11_rule__8, c1, e7, i1, j1, g1, wx_bd, wx_let, wx_st, wx_lit, wx_ga, wx_sa, pk_mul, nI_add, wx_le, wx_lt, wx_eq, wx_en, wx_ne', wx_nn, wx_ltn, wx_len, wx_nlt, wx_nle, wx_bz0, wx_bz1, if_pos, if_neg, wx_ite, Nat.reduceEqDiff, eq_self, if_true, if_false, not_true_eq_false, not_false_eq_true]
        · rcases (show k = 8 ∨ k < 8 by omega) with rfl | hk8
          · exact ⟨-nI 1, σ, τ, by simp -implicitDefEqProofs (disch := omega) only [e_X11_rule, e_X11_rule__1, e_X11_rule__2, e_X11_rule__3, e_X11_rule__4, e_X11_rule__5, e_X11_rule__6, e_X11_rule__7, e_X11_rule__8, c1, e7, wx_bd, wx_let, wx_st, wx_lit, wx_ga, wx_sa, pk_mul, nI_add, wx_le, wx_lt, wx_eq, wx_en, wx_ne', wx_nn, wx_ltn, wx_len, wx_nlt, wx_nle, wx_bz0, wx_bz1, if_pos, if_neg, wx_ite, Nat.reduceEqDiff, eq_self, if_true, if_false, not_true_eq_false, not_false_eq_true], by simp -implicitDefEqProofs (disch := omega) only [e_X12_rule, e_X12_rule__1, e_X12_rule__2, e_X12_rule__3, e_X12_rule__4, e_X12_rule__5, e_X12_rule__6, e_X12_rule__7, e_X12_rule__8, e_X12_rule__9, c2, i2, j2, g2, hk, wx_bd, wx_let, wx_st, wx_lit, wx_ga, wx_sa, pk_mul, nI_add, wx_le, wx_lt, wx_eq, wx_en, wx_ne', wx_nn, wx_ltn, wx_len, wx_nlt, wx_nle, wx_bz0, wx_bz1, if_pos, if_neg, wx_ite, Nat.reduceEqDiff, eq_self, if_true, if_false, not_true_eq_false, not_false_eq_true], h⟩
          · have X1 : wX false nw nj nc (wg_u σ 258 2 (nI 0)) τ := wX_r hX (fun a q => wx_un (by omega)) (fun _ _ => rfl) (fun _ _ _ => rfl)
            obtain ⟨s1, t1, r1, r2, r3, r4, r5, r6⟩ := wl_addRule X1.2.1 X1.1 hw hk hk8 (show c < 8 by omega) ⟨v1, v2⟩ ⟨g3, g4⟩
            obtain ⟨X2, F2⟩ := wX_g X1 r4 r5 r3
            have e72 := wb_rules X2.2.1 hw
            rw [r6] at e72
            have t0 : t1 0 = τ 0 := r5.1 0 (by omega)
            refine ⟨nI (k + 1), s1, wg_u t1 0 3 (nI 0), ?_, ?_, wR_fg (wX_r X2 (fun _ _ => rfl) (fun i hi => by rw [wx_uk, pk_un hi]) (fun a q1 q2 => wx_un q1)) (wY_fr ?_ hY) ?_ ?_ ?_ hI hD ?_ ?_ ?_ ?_ ?_⟩
            · simp -implicitDefEqProofs (disch := omega) only [e_X11_rule, e_X11_rule__1, e_X11_rule__2, e_X11_rule__3, e_X11_rule__4, e_X11_rule__5, e_X11_rule__6, e_X11_rule__7, e_X11_rule__8, c1, e7, i1, j1, g1, e_X5_forget, e_X5_forget__1, r1, e72, wx_bd, wx_let, wx_st, wx_lit, wx_ga, wx_sa, pk_mul, nI_add, wx_le, wx_lt, wx_eq, wx_en, wx_ne', wx_nn, wx_ltn, wx_len, wx_nlt, wx_nle, wx_bz0, wx_bz1, if_pos, if_neg, wx_ite, Nat.reduceEqDiff, eq_self, if_true, if_false, not_true_eq_false, not_false_eq_true]
            · simp -implicitDefEqProofs (disch := omega) only [e_X12_rule, e_X12_rule__1, e_X12_rule__2, e_X12_rule__3, e_X12_rule__4, e_X12_rule__5, e_X12_rule__6, e_X12_rule__7, e_X12_rule__8, e_X12_rule__9, c2, i2, j2, g2, hk, r2, r6, wx_uk, wx_un, pk_us, pk_un, wx_bd, wx_let, wx_st, wx_lit, wx_ga, wx_sa, pk_mul, nI_add, wx_le, wx_lt, wx_eq, wx_en, wx_ne', wx_nn, wx_ltn, wx_len, wx_nlt, wx_nle, wx_bz0, wx_bz1, if_pos, if_neg, wx_ite, Nat.reduceEqDiff, eq_self, if_true, if_false, not_true_eq_false, not_false_eq_true]
            · rw [wx_un (by omega)]; exact F2.2.2
            · obtain ⟨n, nx, p1, p2, p3, p4, -⟩ := hP
              exact ⟨nx, p2, by rw [r4 258 (by omega)]; simp -implicitDefEqProofs (disch := omega) only [wx_uk, wx_un, pk_us, pk_un]; exact p4⟩
            · rw [r4 258 (by omega)]; simp -implicitDefEqProofs (disch := omega) only [wx_uk, wx_un, pk_us, pk_un]
            · simp -implicitDefEqProofs (disch := omega) only [wx_uk, wx_un, pk_us, pk_un]
            · intro a q1 q2; rw [r4 a (by omega)]; simp -implicitDefEqProofs (disch := omega) only [wx_uk, wx_un, pk_us, pk_un]
            · intro i q1; simp -implicitDefEqProofs (disch := omega) only [wx_uk, wx_un, pk_us, pk_un, t0]
            · rw [wx_un (by omega)]; exact r5.1 9 (by omega)
            · rw [wx_un (by omega)]; exact r5.1 10 (by omega)
            · rw [wx_un (by omega)]; exact r5.1 33 (by omega)

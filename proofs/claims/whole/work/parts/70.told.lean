/-! what is told for thought is changed alone: cells 49 .. 57 of the class, fields 45 49 53 and cells 24 .. 31 of the reference -/
set_option maxHeartbeats 1000000 in
theorem wR_td {nw nj nc : Nat} {σ σ' τ τ' : wg_M} (hσ : ∀ a, a < 49 ∨ 58 < a → σ' a = σ a) (hτ : ∀ a i, wLq a i = true → (a < 24 ∨ a = 33) → (a = 0 → i ≠ 45 ∧ i ≠ 49 ∧ i ≠ 53) → τ' a i = τ a i) (hW : wRW nw nj nc σ 0 τ) (hP : wP nw nj nc σ τ) (hI : wIm σ τ) (hD : wRd σ τ) (hF : wFl σ τ) (t1 : wTr σ' 0 τ') (t2 : wCt σ' 0 τ') (t3 : wPa σ' 0 τ') (t4 : wHd σ' 0 τ') : wR σ' τ' := by
  obtain ⟨h1, h2, h3, h4, h5, h6, h7, h8, -⟩ := hW
  have hv : ∀ a i, wLv a i = true → a < 24 → (a = 0 → i ≠ 45 ∧ i ≠ 49 ∧ i ≠ 53) → τ' a i = τ a i := fun a i q q1 q2 => hτ a i (by simp [wLq, q]) (Or.inl q1) q2
  have v1 : ∀ i, i < 295 → τ' 1 i = τ 1 i := fun i hi => hv 1 i (by simp [wLv]; omega) (by omega) (by omega)
  have v4 : ∀ i, i < 8 → τ' 4 i = τ 4 i := fun i hi => hv 4 i (by simp [wLv]; omega) (by omega) (by omega)
  have v5 : ∀ i, i < 10 → τ' 5 i = τ 5 i := fun i hi => hv 5 i (by simp [wLv]; omega) (by omega) (by omega)
  have v6 : ∀ i, i < 14 → τ' 6 i = τ 6 i := fun i hi => hv 6 i (by simp [wLv]; omega) (by omega) (by omega)
  have v7 : ∀ i, i < 14 → τ' 7 i = τ 7 i := fun i hi => hv 7 i (by simp [wLv]; omega) (by omega) (by omega)
  refine ⟨nw, nj, nc, ⟨?_, ?_, ?_, ?_, ?_, ?_, ?_, ?_, t1, t2, t3, t4⟩, ?_, ?_, ?_, ?_⟩
  · exact wN_fr (hv 0 6 rfl (by omega) (by omega)) (hv 0 7 rfl (by omega) (by omega)) (hv 0 8 rfl (by omega) (by omega)) h1
  · exact wB_fr ⟨h1.1, h1.2.1, h1.2.2.1⟩ (fun a q1 q2 => hσ a (by omega)) v1 v4 v5 v6 v7 h2
  · exact wY_fr (v1 0 (by omega)) h3
  · exact wPg_fr (fun a q1 q2 => hσ a (by omega)) (fun i hi => hv 8 i (by simp [wLv]; omega) (by omega) (by omega)) h4
  · exact wLw_fr (fun a q1 q2 => hσ a (by omega)) (fun a i q q2 => hv a i q (by omega) (by omega)) h5
  · exact wDk_fr (fun a q1 q2 => hσ a (by omega)) (hv 0 37 rfl (by omega) (by omega)) (fun i hi => hv 19 i (by simp [wLv]; omega) (by omega) (by omega)) h6
  · exact wLn_fr (fun a q1 q2 => hσ a (by omega)) (hv 0 39 rfl (by omega) (by omega)) (fun i hi => hv 20 i (by simp [wLv]; omega) (by omega) (by omega)) h7
  · exact wKn_fr (fun a q1 q2 => hσ a (by omega)) (hv 0 41 rfl (by omega) (by omega)) (fun i hi => hv 21 i (by simp [wLv]; omega) (by omega) (by omega)) h8
  · exact wP_fr ⟨h1.1, h1.2.1, h1.2.2.1⟩ (by rw [hσ 258 (by omega)]) (by rw [hσ 258 (by omega)]) (fun a q1 q2 => hσ a (by omega)) (hτ 0 3 rfl (by omega) (by omega)) (fun i hi => hτ 2 i (by simp [wLq]) (by omega) (by omega)) v4 v5 v6 v7 hP
  · exact wIm_fr (by rw [hσ 281 (by omega)]) (fun a q1 q2 _ _ _ => hσ a (by omega)) (hτ 0 58 rfl (by omega) (by omega)) (funext fun i => hτ 33 i (by simp [wLq]) (by omega) (by omega)) hI
  · exact wRd_fr (by rw [hσ 260 (by omega)]) (by rw [hσ 260 (by omega)]) (by rw [hσ 260 (by omega)]) (hσ 261 (by omega)) (hτ 0 15 rfl (by omega) (by omega)) (hτ 0 35 rfl (by omega) (by omega)) (hτ 0 36 rfl (by omega) (by omega)) (funext fun i => hτ 9 i (by simp [wLq]) (by omega) (by omega)) (funext fun i => hτ 10 i (by simp [wLq]) (by omega) (by omega)) hD
  · exact wFl_fr (by rw [hσ 279 (by omega)]) (hτ 0 5 rfl (by omega) (by omega)) hF
set_option maxHeartbeats 1000000 in
theorem ws_parcel : wp_parcel wR := by
  intro σ τ a0 a1 a2 h
  have h := wR_told (nI 0) h
  simp only [e_X12_parcel, wx_st, wx_lit]
  simp -implicitDefEqProofs only [e_X12_parcel__1, wx_lit]
  generalize wg_u τ 0 0 (nI 0) = τ at h ⊢
  obtain ⟨nw, nj, nc, ⟨h1, h2, h3, h4, h5⟩, hP, hI, hD, hF⟩ := id h
  obtain ⟨n1, n2, n3, n4, n5, n6⟩ := id h1
  obtain ⟨-, -, -, -, t1, t2, t3, t4⟩ := id h5
  rcases wk_in a0 0 9 (by omega) (by omega) with ⟨i1, i2⟩ | ⟨k, k1, k2, rfl, i3, i4⟩
  · exact ⟨nI 0, σ, τ, by simp -implicitDefEqProofs (disch := omega) only [e_X11_parcel, e_X11_parcel__1, e_X11_parcel__2, e_X11_parcel__3, e_X11_parcel__4, i1, wx_bd, wx_let, wx_st, wx_lit, wx_ga, wx_sa, pk_mul, nI_add, wx_le, wx_lt, wx_eq, wx_en, wx_ne', wx_nn, wx_ltn, wx_len, wx_nlt, wx_nle, wx_bz0, wx_bz1, if_pos, if_neg, wx_ite, Nat.reduceEqDiff, eq_self, if_true, if_false, not_true_eq_false, not_false_eq_true], by simp -implicitDefEqProofs (disch := omega) only [e_X12_parcel, e_X12_parcel__1, e_X12_parcel__2, e_X12_parcel__3, e_X12_parcel__4, e_X12_parcel__5, i2, wx_bd, wx_let, wx_st, wx_lit, wx_ga, wx_sa, pk_mul, nI_add, wx_le, wx_lt, wx_eq, wx_en, wx_ne', wx_nn, wx_ltn, wx_len, wx_nlt, wx_nle, wx_bz0, wx_bz1, if_pos, if_neg, wx_ite, Nat.reduceEqDiff, eq_self, if_true, if_false, not_true_eq_false, not_false_eq_true], h⟩
  rcases wk_in a1 0 1 (by omega) (by omega) with ⟨j1, j2⟩ | ⟨q, q1, q2, rfl, j3, j4⟩
  · exact ⟨nI 0, σ, τ, by simp -implicitDefEqProofs (disch := omega) only [e_X11_parcel, e_X11_parcel__1, e_X11_parcel__2, e_X11_parcel__3, e_X11_parcel__4, i3, j1, wx_bd, wx_let, wx_st, wx_lit, wx_ga, wx_sa, pk_mul, nI_add, wx_le, wx_lt, wx_eq, wx_en, wx_ne', wx_nn, wx_ltn, wx_len, wx_nlt, wx_nle, wx_bz0, wx_bz1, if_pos, if_neg, wx_ite, Nat.reduceEqDiff, eq_self, if_true, if_false, not_true_eq_false, not_false_eq_true], by simp -implicitDefEqProofs (disch := omega) only [e_X12_parcel, e_X12_parcel__1, e_X12_parcel__2, e_X12_parcel__3, e_X12_parcel__4, e_X12_parcel__5, i4, j2, wx_bd, wx_let, wx_st, wx_lit, wx_ga, wx_sa, pk_mul, nI_add, wx_le, wx_lt, wx_eq, wx_en, wx_ne', wx_nn, wx_ltn, wx_len, wx_nlt, wx_nle, wx_bz0, wx_bz1, if_pos, if_neg, wx_ite, Nat.reduceEqDiff, eq_self, if_true, if_false, not_true_eq_false, not_false_eq_true], h⟩
  rcases wk_in a2 0 99 (by omega) (by omega) with ⟨l1, l2⟩ | ⟨v, v1, v2, rfl, l3, l4⟩
  · exact ⟨nI 0, σ, τ, by simp -implicitDefEqProofs (disch := omega) only [e_X11_parcel, e_X11_parcel__1, e_X11_parcel__2, e_X11_parcel__3, e_X11_parcel__4, i3, j3, l1, wx_bd, wx_let, wx_st, wx_lit, wx_ga, wx_sa, pk_mul, nI_add, wx_le, wx_lt, wx_eq, wx_en, wx_ne', wx_nn, wx_ltn, wx_len, wx_nlt, wx_nle, wx_bz0, wx_bz1, if_pos, if_neg, wx_ite, Nat.reduceEqDiff, eq_self, if_true, if_false, not_true_eq_false, not_false_eq_true], by simp -implicitDefEqProofs (disch := omega) only [e_X12_parcel, e_X12_parcel__1, e_X12_parcel__2, e_X12_parcel__3, e_X12_parcel__4, e_X12_parcel__5, i4, j4, l2, wx_bd, wx_let, wx_st, wx_lit, wx_ga, wx_sa, pk_mul, nI_add, wx_le, wx_lt, wx_eq, wx_en, wx_ne', wx_nn, wx_ltn, wx_len, wx_nlt, wx_nle, wx_bz0, wx_bz1, if_pos, if_neg, wx_ite, Nat.reduceEqDiff, eq_self, if_true, if_false, not_true_eq_false, not_false_eq_true], h⟩
  refine ⟨nI 1, wg_u σ 55 (q * 10 + k) (nI v), wg_u τ 29 (10 * q + k) (nI v), by simp -implicitDefEqProofs (disch := omega) only [e_X11_parcel, e_X11_parcel__1, e_X11_parcel__2, e_X11_parcel__3, e_X11_parcel__4, i3, j3, l3, wx_bd, wx_let, wx_st, wx_lit, wx_ga, wx_sa, pk_mul, nI_add, wx_le, wx_lt, wx_eq, wx_en, wx_ne', wx_nn, wx_ltn, wx_len, wx_nlt, wx_nle, wx_bz0, wx_bz1, if_pos, if_neg, wx_ite, Nat.reduceEqDiff, eq_self, if_true, if_false, not_true_eq_false, not_false_eq_true], by simp -implicitDefEqProofs (disch := omega) only [e_X12_parcel, e_X12_parcel__1, e_X12_parcel__2, e_X12_parcel__3, e_X12_parcel__4, e_X12_parcel__5, i4, j4, l4, wx_bd, wx_let, wx_st, wx_lit, wx_ga, wx_sa, pk_mul, nI_add, wx_le, wx_lt, wx_eq, wx_en, wx_ne', wx_nn, wx_ltn, wx_len, wx_nlt, wx_nle, wx_bz0, wx_bz1, if_pos, if_neg, wx_ite, Nat.reduceEqDiff, eq_self, if_true, if_false, not_true_eq_false, not_false_eq_true], ?_⟩
  refine wR_td (fun a ha => by simp -implicitDefEqProofs (disch := omega) only [wx_uk, wx_un, pk_us, pk_un]) (fun a i _ ha _ => by simp -implicitDefEqProofs (disch := omega) only [wx_uk, wx_un, pk_us, pk_un]) ⟨h1, h2, h3, h4, h5⟩ hP hI hD hF ?_ ?_ ?_ ?_
  · exact wTr_fr (by simp -implicitDefEqProofs (disch := omega) only [wx_uk, wx_un, pk_us, pk_un]) (fun a q1 q2 => by simp -implicitDefEqProofs (disch := omega) only [wx_uk, wx_un, pk_us, pk_un]) (by simp -implicitDefEqProofs (disch := omega) only [wx_uk, wx_un, pk_us, pk_un]) (fun a i q1 q2 _ => by simp -implicitDefEqProofs (disch := omega) only [wx_uk, wx_un, pk_us, pk_un]) t1
  · exact wCt_fr (by simp -implicitDefEqProofs (disch := omega) only [wx_uk, wx_un, pk_us, pk_un]) (fun a q1 q2 => by simp -implicitDefEqProofs (disch := omega) only [wx_uk, wx_un, pk_us, pk_un]) (by simp -implicitDefEqProofs (disch := omega) only [wx_uk, wx_un, pk_us, pk_un]) (fun i _ => by simp -implicitDefEqProofs (disch := omega) only [wx_uk, wx_un, pk_us, pk_un]) t2
  · intro i hi
    simp only [Nat.zero_add, wx_uk]
    by_cases c : i = q * 10 + k
    · subst c
      rw [show 10 * q + k = q * 10 + k by omega, pk_us, pk_us]
      exact ⟨rfl, v, v2, rfl⟩
    · rw [pk_un c, pk_un (by omega)]
      exact t3 i hi
  · exact wHd_fr (by simp -implicitDefEqProofs (disch := omega) only [wx_uk, wx_un, pk_us, pk_un]) (fun a q1 q2 => by simp -implicitDefEqProofs (disch := omega) only [wx_uk, wx_un, pk_us, pk_un]) (by simp -implicitDefEqProofs (disch := omega) only [wx_uk, wx_un, pk_us, pk_un]) (fun a i q1 q2 _ => by simp -implicitDefEqProofs (disch := omega) only [wx_uk, wx_un, pk_us, pk_un]) t4
set_option maxHeartbeats 1000000 in
theorem ws_hard : wp_hard wR := by
  intro σ τ a0 a1 h
  have h := wR_told (nI 0) h
  simp only [e_X12_hard, wx_st, wx_lit]
  simp -implicitDefEqProofs only [e_X12_hard__1, wx_lit]
  generalize wg_u τ 0 0 (nI 0) = τ at h ⊢
  obtain ⟨nw, nj, nc, ⟨h1, h2, h3, h4, h5⟩, hP, hI, hD, hF⟩ := id h
  obtain ⟨n1, n2, n3, n4, n5, n6⟩ := id h1
  obtain ⟨-, -, -, -, t1, t2, t3, t4⟩ := id h5
  obtain ⟨n, m1, m2, m3, m4⟩ := id t4
  have m2 : σ 49 10 = nI n := m2
  by_cases c0 : a0 = -nI 1
  · subst c0
    refine ⟨nI 0, wg_u σ 49 10 (nI 0), wg_u τ 0 53 (nI 0), by simp -implicitDefEqProofs (disch := omega) only [e_X11_hard, e_X11_hard__1, e_X11_hard__2, wx_bd, wx_let, wx_st, wx_lit, wx_ga, wx_sa, pk_mul, nI_add, wx_le, wx_lt, wx_eq, wx_en, wx_ne', wx_nn, wx_ltn, wx_len, wx_nlt, wx_nle, wx_bz0, wx_bz1, if_pos, if_neg, wx_ite, Nat.reduceEqDiff, eq_self, if_true, if_false, not_true_eq_false, not_false_eq_true], by simp -implicitDefEqProofs (disch := omega) only [e_X12_hard, e_X12_hard__1, e_X12_hard__2, e_X12_hard__3, e_X12_hard__4, e_X12_hard__5, e_X12_hard__6, e_X12_hard__7, wx_bd, wx_let, wx_st, wx_lit, wx_ga, wx_sa, pk_mul, nI_add, wx_le, wx_lt, wx_eq, wx_en, wx_ne', wx_nn, wx_ltn, wx_len, wx_nlt, wx_nle, wx_bz0, wx_bz1, if_pos, if_neg, wx_ite, Nat.reduceEqDiff, eq_self, if_true, if_false, not_true_eq_false, not_false_eq_true], ?_⟩
    refine wR_td (fun a ha => by simp -implicitDefEqProofs (disch := omega) only [wx_uk, wx_un, pk_us, pk_un]) (fun a i _ ha q => ?_) ⟨h1, h2, h3, h4, h5⟩ hP hI hD hF ?_ ?_ ?_ ?_
    · by_cases ca : a = 0
      · subst ca
        have := q rfl
        simp -implicitDefEqProofs (disch := omega) only [wx_uk, wx_un, pk_us, pk_un]
      · simp -implicitDefEqProofs (disch := omega) only [wx_uk, wx_un, pk_us, pk_un]
    · exact wTr_fr (by simp -implicitDefEqProofs (disch := omega) only [wx_uk, wx_un, pk_us, pk_un]) (fun a q1 q2 => by simp -implicitDefEqProofs (disch := omega) only [wx_uk, wx_un, pk_us, pk_un]) (by simp -implicitDefEqProofs (disch := omega) only [wx_uk, wx_un, pk_us, pk_un]) (fun a i q1 q2 _ => by simp -implicitDefEqProofs (disch := omega) only [wx_uk, wx_un, pk_us, pk_un]) t1
    · exact wCt_fr (by simp -implicitDefEqProofs (disch := omega) only [wx_uk, wx_un, pk_us, pk_un]) (fun a q1 q2 => by simp -implicitDefEqProofs (disch := omega) only [wx_uk, wx_un, pk_us, pk_un]) (by simp -implicitDefEqProofs (disch := omega) only [wx_uk, wx_un, pk_us, pk_un]) (fun i _ => by simp -implicitDefEqProofs (disch := omega) only [wx_uk, wx_un, pk_us, pk_un]) t2
    · exact wPa_fr (by simp -implicitDefEqProofs (disch := omega) only [wx_uk, wx_un, pk_us, pk_un]) (fun i _ => by simp -implicitDefEqProofs (disch := omega) only [wx_uk, wx_un, pk_us, pk_un]) t3
    · exact ⟨0, by omega, by simp -implicitDefEqProofs (disch := omega) only [wx_uk, wx_un, pk_us, pk_un], by simp -implicitDefEqProofs (disch := omega) only [wx_uk, wx_un, pk_us, pk_un], fun i hi => by omega⟩
  rcases wk_in a0 1 24 (by omega) (by omega) with ⟨i1, i2⟩ | ⟨u, u1, u2, rfl, i3, i4⟩
  · refine ⟨-nI 1, σ, τ, ?_, by simp -implicitDefEqProofs (disch := omega) only [e_X12_hard, e_X12_hard__1, e_X12_hard__2, e_X12_hard__3, e_X12_hard__4, e_X12_hard__5, e_X12_hard__6, e_X12_hard__7, i2, c0, wx_bd, wx_let, wx_st, wx_lit, wx_ga, wx_sa, pk_mul, nI_add, wx_le, wx_lt, wx_eq, wx_en, wx_ne', wx_nn, wx_ltn, wx_len, wx_nlt, wx_nle, wx_bz0, wx_bz1, if_pos, if_neg, wx_ite, Nat.reduceEqDiff, eq_self, if_true, if_false, not_true_eq_false, not_false_eq_true], h⟩
    by_cases c7 : n = 7
    · simp -implicitDefEqProofs (disch := omega) only [e_X11_hard, e_X11_hard__1, e_X11_hard__2, e_X8_addHard, e_X8_addHard__1, e_X8_addHard__2, e_X8_addHard__3, e_X8_addHard__4, e_X8_addHard__5, m2, c0, wx_bd, wx_let, wx_st, wx_lit, wx_ga, wx_sa, pk_mul, nI_add, wx_le, wx_lt, wx_eq, wx_en, wx_ne', wx_nn, wx_ltn, wx_len, wx_nlt, wx_nle, wx_bz0, wx_bz1, if_pos, if_neg, wx_ite, Nat.reduceEqDiff, eq_self, if_true, if_false, not_true_eq_false, not_false_eq_true]
    · simp -implicitDefEqProofs (disch := omega) only [e_X11_hard, e_X11_hard__1, e_X11_hard__2, e_X8_addHard, e_X8_addHard__1, e_X8_addHard__2, e_X8_addHard__3, e_X8_addHard__4, e_X8_addHard__5, m2, i1, c0, wx_bd, wx_let, wx_st, wx_lit, wx_ga, wx_sa, pk_mul, nI_add, wx_le, wx_lt, wx_eq, wx_en, wx_ne', wx_nn, wx_ltn, wx_len, wx_nlt, wx_nle, wx_bz0, wx_bz1, if_pos, if_neg, wx_ite, Nat.reduceEqDiff, eq_self, if_true, if_false, not_true_eq_false, not_false_eq_true]
  rcases wk_in a1 0 99 (by omega) (by omega) with ⟨j1, j2⟩ | ⟨d, d1, d2, rfl, j3, j4⟩
  · refine ⟨-nI 1, σ, τ, ?_, by simp -implicitDefEqProofs (disch := omega) only [e_X12_hard, e_X12_hard__1, e_X12_hard__2, e_X12_hard__3, e_X12_hard__4, e_X12_hard__5, e_X12_hard__6, e_X12_hard__7, i4, j2, wx_bd, wx_let, wx_st, wx_lit, wx_ga, wx_sa, pk_mul, nI_add, wx_le, wx_lt, wx_eq, wx_en, wx_ne', wx_nn, wx_ltn, wx_len, wx_nlt, wx_nle, wx_bz0, wx_bz1, if_pos, if_neg, wx_ite, Nat.reduceEqDiff, eq_self, if_true, if_false, not_true_eq_false, not_false_eq_true], h⟩
    by_cases c7 : n = 7
    · simp -implicitDefEqProofs (disch := omega) only [e_X11_hard, e_X11_hard__1, e_X11_hard__2, e_X8_addHard, e_X8_addHard__1, e_X8_addHard__2, e_X8_addHard__3, e_X8_addHard__4, e_X8_addHard__5, m2, wx_bd, wx_let, wx_st, wx_lit, wx_ga, wx_sa, pk_mul, nI_add, wx_le, wx_lt, wx_eq, wx_en, wx_ne', wx_nn, wx_ltn, wx_len, wx_nlt, wx_nle, wx_bz0, wx_bz1, if_pos, if_neg, wx_ite, Nat.reduceEqDiff, eq_self, if_true, if_false, not_true_eq_false, not_false_eq_true]
    · simp -implicitDefEqProofs (disch := omega) only [e_X11_hard, e_X11_hard__1, e_X11_hard__2, e_X8_addHard, e_X8_addHard__1, e_X8_addHard__2, e_X8_addHard__3, e_X8_addHard__4, e_X8_addHard__5, m2, i3, j1, wx_bd, wx_let, wx_st, wx_lit, wx_ga, wx_sa, pk_mul, nI_add, wx_le, wx_lt, wx_eq, wx_en, wx_ne', wx_nn, wx_ltn, wx_len, wx_nlt, wx_nle, wx_bz0, wx_bz1, if_pos, if_neg, wx_ite, Nat.reduceEqDiff, eq_self, if_true, if_false, not_true_eq_false, not_false_eq_true]
  by_cases c7 : n = 7
  · exact ⟨-nI 1, σ, τ, by simp -implicitDefEqProofs (disch := omega) only [e_X11_hard, e_X11_hard__1, e_X11_hard__2, e_X8_addHard, e_X8_addHard__1, e_X8_addHard__2, e_X8_addHard__3, e_X8_addHard__4, e_X8_addHard__5, m2, wx_bd, wx_let, wx_st, wx_lit, wx_ga, wx_sa, pk_mul, nI_add, wx_le, wx_lt, wx_eq, wx_en, wx_ne', wx_nn, wx_ltn, wx_len, wx_nlt, wx_nle, wx_bz0, wx_bz1, if_pos, if_neg, wx_ite, Nat.reduceEqDiff, eq_self, if_true, if_false, not_true_eq_false, not_false_eq_true], by simp -implicitDefEqProofs (disch := omega) only [e_X12_hard, e_X12_hard__1, e_X12_hard__2, e_X12_hard__3, e_X12_hard__4, e_X12_hard__5, e_X12_hard__6, e_X12_hard__7, i4, j4, m3, wx_bd, wx_let, wx_st, wx_lit, wx_ga, wx_sa, pk_mul, nI_add, wx_le, wx_lt, wx_eq, wx_en, wx_ne', wx_nn, wx_ltn, wx_len, wx_nlt, wx_nle, wx_bz0, wx_bz1, if_pos, if_neg, wx_ite, Nat.reduceEqDiff, eq_self, if_true, if_false, not_true_eq_false, not_false_eq_true], h⟩
  refine ⟨nI (n + 1), wg_u (wg_u (wg_u σ 56 n (nI u)) 57 n (nI d)) 49 10 (nI (n + 1)), wg_u (wg_u (wg_u τ 30 n (nI u)) 31 n (nI d)) 0 53 (nI (n + 1)), by simp -implicitDefEqProofs (disch := omega) only [e_X11_hard, e_X11_hard__1, e_X11_hard__2, e_X8_addHard, e_X8_addHard__1, e_X8_addHard__2, e_X8_addHard__3, e_X8_addHard__4, e_X8_addHard__5, m2, i3, j3, wx_uk, wx_un, pk_us, pk_un, wx_bd, wx_let, wx_st, wx_lit, wx_ga, wx_sa, pk_mul, nI_add, wx_le, wx_lt, wx_eq, wx_en, wx_ne', wx_nn, wx_ltn, wx_len, wx_nlt, wx_nle, wx_bz0, wx_bz1, if_pos, if_neg, wx_ite, Nat.reduceEqDiff, eq_self, if_true, if_false, not_true_eq_false, not_false_eq_true], by simp -implicitDefEqProofs (disch := omega) only [e_X12_hard, e_X12_hard__1, e_X12_hard__2, e_X12_hard__3, e_X12_hard__4, e_X12_hard__5, e_X12_hard__6, e_X12_hard__7, i4, j4, m3, wx_uk, wx_un, pk_us, pk_un, wx_bd, wx_let, wx_st, wx_lit, wx_ga, wx_sa, pk_mul, nI_add, wx_le, wx_lt, wx_eq, wx_en, wx_ne', wx_nn, wx_ltn, wx_len, wx_nlt, wx_nle, wx_bz0, wx_bz1, if_pos, if_neg, wx_ite, Nat.reduceEqDiff, eq_self, if_true, if_false, not_true_eq_false, not_false_eq_true], ?_⟩
  refine wR_td (fun a ha => by simp -implicitDefEqProofs (disch := omega) only [wx_uk, wx_un, pk_us, pk_un]) (fun a i _ ha q => ?_) ⟨h1, h2, h3, h4, h5⟩ hP hI hD hF ?_ ?_ ?_ ?_
  · by_cases ca : a = 0
    · subst ca
      have := q rfl
      simp -implicitDefEqProofs (disch := omega) only [wx_uk, wx_un, pk_us, pk_un]
    · simp -implicitDefEqProofs (disch := omega) only [wx_uk, wx_un, pk_us, pk_un]
  · exact wTr_fr (by simp -implicitDefEqProofs (disch := omega) only [wx_uk, wx_un, pk_us, pk_un]) (fun a q1 q2 => by simp -implicitDefEqProofs (disch := omega) only [wx_uk, wx_un, pk_us, pk_un]) (by simp -implicitDefEqProofs (disch := omega) only [wx_uk, wx_un, pk_us, pk_un]) (fun a i q1 q2 _ => by simp -implicitDefEqProofs (disch := omega) only [wx_uk, wx_un, pk_us, pk_un]) t1
  · exact wCt_fr (by simp -implicitDefEqProofs (disch := omega) only [wx_uk, wx_un, pk_us, pk_un]) (fun a q1 q2 => by simp -implicitDefEqProofs (disch := omega) only [wx_uk, wx_un, pk_us, pk_un]) (by simp -implicitDefEqProofs (disch := omega) only [wx_uk, wx_un, pk_us, pk_un]) (fun i _ => by simp -implicitDefEqProofs (disch := omega) only [wx_uk, wx_un, pk_us, pk_un]) t2
  · exact wPa_fr (by simp -implicitDefEqProofs (disch := omega) only [wx_uk, wx_un, pk_us, pk_un]) (fun i _ => by simp -implicitDefEqProofs (disch := omega) only [wx_uk, wx_un, pk_us, pk_un]) t3
  · refine ⟨n + 1, by omega, by simp -implicitDefEqProofs (disch := omega) only [wx_uk, wx_un, pk_us, pk_un], by simp -implicitDefEqProofs (disch := omega) only [wx_uk, wx_un, pk_us, pk_un], fun i hi => ?_⟩
    by_cases c : i = n
    · subst c
      simp -implicitDefEqProofs (disch := omega) only [Nat.zero_add, wx_uk, wx_un, pk_us, pk_un]
      exact ⟨trivial, trivial, ⟨u, u1, u2, rfl⟩, d, d2, rfl⟩
    · have := m4 i (by omega)
      simp -implicitDefEqProofs (disch := omega) only [Nat.zero_add, wx_uk, wx_un, pk_us, pk_un] at this ⊢
      exact this
set_option maxHeartbeats 1000000 in
theorem ws_trait : wp_trait wR := by
  intro σ τ a0 a1 a2 h hz
  have h := wR_told (nI 0) h
  simp only [e_X12_trait, wx_st, wx_lit]
  simp -implicitDefEqProofs only [e_X12_trait__1, wx_lit]
  generalize wg_u τ 0 0 (nI 0) = τ at h ⊢
  obtain ⟨nw, nj, nc, ⟨h1, h2, h3, h4, h5⟩, hP, hI, hD, hF⟩ := id h
  obtain ⟨n1, n2, n3, n4, n5, n6⟩ := id h1
  obtain ⟨-, -, -, -, t1, t2, t3, t4⟩ := id h5
  obtain ⟨n, m1, m2, m3, m4⟩ := id t1
  have m2 : σ 49 3 = nI n := m2
  by_cases c0 : a0 = -nI 1
  · subst c0
    refine ⟨nI 0, wg_u σ 49 3 (nI 0), wg_u τ 0 45 (nI 0), by simp -implicitDefEqProofs (disch := omega) only [e_X11_trait, e_X11_trait__1, wx_bd, wx_let, wx_st, wx_lit, wx_ga, wx_sa, pk_mul, nI_add, wx_le, wx_lt, wx_eq, wx_en, wx_ne', wx_nn, wx_ltn, wx_len, wx_nlt, wx_nle, wx_bz0, wx_bz1, if_pos, if_neg, wx_ite, Nat.reduceEqDiff, eq_self, if_true, if_false, not_true_eq_false, not_false_eq_true], by simp -implicitDefEqProofs (disch := omega) only [e_X12_trait, e_X12_trait__1, e_X12_trait__2, e_X12_trait__3, wx_bd, wx_let, wx_st, wx_lit, wx_ga, wx_sa, pk_mul, nI_add, wx_le, wx_lt, wx_eq, wx_en, wx_ne', wx_nn, wx_ltn, wx_len, wx_nlt, wx_nle, wx_bz0, wx_bz1, if_pos, if_neg, wx_ite, Nat.reduceEqDiff, eq_self, if_true, if_false, not_true_eq_false, not_false_eq_true], ?_⟩
    refine wR_td (fun a ha => by simp -implicitDefEqProofs (disch := omega) only [wx_uk, wx_un, pk_us, pk_un]) (fun a i _ ha q => ?_) ⟨h1, h2, h3, h4, h5⟩ hP hI hD hF ?_ ?_ ?_ ?_
    · by_cases ca : a = 0
      · subst ca
        have := q rfl
        simp -implicitDefEqProofs (disch := omega) only [wx_uk, wx_un, pk_us, pk_un]
      · simp -implicitDefEqProofs (disch := omega) only [wx_uk, wx_un, pk_us, pk_un]
    · exact ⟨0, by omega, by simp -implicitDefEqProofs (disch := omega) only [wx_uk, wx_un, pk_us, pk_un], by simp -implicitDefEqProofs (disch := omega) only [wx_uk, wx_un, pk_us, pk_un], fun i hi => by omega⟩
    · exact wCt_fr (by simp -implicitDefEqProofs (disch := omega) only [wx_uk, wx_un, pk_us, pk_un]) (fun a q1 q2 => by simp -implicitDefEqProofs (disch := omega) only [wx_uk, wx_un, pk_us, pk_un]) (by simp -implicitDefEqProofs (disch := omega) only [wx_uk, wx_un, pk_us, pk_un]) (fun i _ => by simp -implicitDefEqProofs (disch := omega) only [wx_uk, wx_un, pk_us, pk_un]) t2
    · exact wPa_fr (by simp -implicitDefEqProofs (disch := omega) only [wx_uk, wx_un, pk_us, pk_un]) (fun i _ => by simp -implicitDefEqProofs (disch := omega) only [wx_uk, wx_un, pk_us, pk_un]) t3
    · exact wHd_fr (by simp -implicitDefEqProofs (disch := omega) only [wx_uk, wx_un, pk_us, pk_un]) (fun a q1 q2 => by simp -implicitDefEqProofs (disch := omega) only [wx_uk, wx_un, pk_us, pk_un]) (by simp -implicitDefEqProofs (disch := omega) only [wx_uk, wx_un, pk_us, pk_un]) (fun a i q1 q2 _ => by simp -implicitDefEqProofs (disch := omega) only [wx_uk, wx_un, pk_us, pk_un]) t4
  obtain ⟨z, hz1, rfl⟩ : ∃ z, z ≤ 1 ∧ a2 = nI z := by
    rcases hz with e | e
    · exact ⟨0, by omega, e⟩
    · exact ⟨1, by omega, e⟩
  rcases wk_in a0 0 3 (by omega) (by omega) with ⟨i1, i2⟩ | ⟨k, k1, k2, rfl, i3, i4⟩
  · refine ⟨-nI 1, σ, τ, ?_, by simp -implicitDefEqProofs (disch := omega) only [e_X12_trait, e_X12_trait__1, e_X12_trait__2, e_X12_trait__3, i2, c0, wx_bd, wx_let, wx_st, wx_lit, wx_ga, wx_sa, pk_mul, nI_add, wx_le, wx_lt, wx_eq, wx_en, wx_ne', wx_nn, wx_ltn, wx_len, wx_nlt, wx_nle, wx_bz0, wx_bz1, if_pos, if_neg, wx_ite, Nat.reduceEqDiff, eq_self, if_true, if_false, not_true_eq_false, not_false_eq_true], h⟩
    rcases (show z = 0 ∨ z = 1 by omega) with rfl | rfl
    · by_cases c8 : n = 8
      · simp -implicitDefEqProofs (disch := omega) only [e_X11_trait, e_X11_trait__1, e_X11_trait_36, e_X11_trait_36__1, e_X8_addTrait, e_X8_addTrait__1, m2, c0, wx_bd, wx_let, wx_st, wx_lit, wx_ga, wx_sa, pk_mul, nI_add, wx_le, wx_lt, wx_eq, wx_en, wx_ne', wx_nn, wx_ltn, wx_len, wx_nlt, wx_nle, wx_bz0, wx_bz1, if_pos, if_neg, wx_ite, Nat.reduceEqDiff, eq_self, if_true, if_false, not_true_eq_false, not_false_eq_true]
      · simp -implicitDefEqProofs (disch := omega) only [e_X11_trait, e_X11_trait__1, e_X11_trait_36, e_X11_trait_36__1, e_X8_addTrait, e_X8_addTrait__1, m2, i1, c0, wx_bd, wx_let, wx_st, wx_lit, wx_ga, wx_sa, pk_mul, nI_add, wx_le, wx_lt, wx_eq, wx_en, wx_ne', wx_nn, wx_ltn, wx_len, wx_nlt, wx_nle, wx_bz0, wx_bz1, if_pos, if_neg, wx_ite, Nat.reduceEqDiff, eq_self, if_true, if_false, not_true_eq_false, not_false_eq_true]
    · by_cases c8 : n = 8
      · simp -implicitDefEqProofs (disch := omega) only [e_X11_trait, e_X11_trait__1, e_X11_trait_36, e_X11_trait_36__1, e_X8_addTrait, e_X8_addTrait__1, m2, c0, wx_bd, wx_let, wx_st, wx_lit, wx_ga, wx_sa, pk_mul, nI_add, wx_le, wx_lt, wx_eq, wx_en, wx_ne', wx_nn, wx_ltn, wx_len, wx_nlt, wx_nle, wx_bz0, wx_bz1, if_pos, if_neg, wx_ite, Nat.reduceEqDiff, eq_self, if_true, if_false, not_true_eq_false, not_false_eq_true]
      · simp -implicitDefEqProofs (disch := omega) only [e_X11_trait, e_X11_trait__1, e_X11_trait_36, e_X11_trait_36__1, e_X8_addTrait, e_X8_addTrait__1, m2, i1, c0, wx_bd, wx_let, wx_st, wx_lit, wx_ga, wx_sa, pk_mul, nI_add, wx_le, wx_lt, wx_eq, wx_en, wx_ne', wx_nn, wx_ltn, wx_len, wx_nlt, wx_nle, wx_bz0, wx_bz1, if_pos, if_neg, wx_ite, Nat.reduceEqDiff, eq_self, if_true, if_false, not_true_eq_false, not_false_eq_true]
  -- the bound of v
  have hb : ∃ B, B ≤ 99 ∧ (∀ s, n < 8 → s 49 3 = nI n → f_X8_addTrait 49 (nI k) a1 (nI z) s = f_X8_addTrait_40 49 (nI k) a1 (nI z) (nI B) s) ∧ q_X12_trait__3 (nI k) a1 (nI z) (nI 1) τ = f_X12_trait_50 0 (nI k) a1 (nI z) (nI B) (nI 0) a1 0 τ := by
    rcases (show k = 0 ∨ k = 2 ∨ (k ≠ 0 ∧ k ≠ 2) by omega) with rfl | rfl | ⟨q0, q2⟩
    · refine ⟨2, by omega, fun s hs he => ?_, ?_⟩
      · simp -implicitDefEqProofs (disch := omega) only [e_X8_addTrait, e_X8_addTrait__1, he, i3, wx_bd, wx_let, wx_st, wx_lit, wx_ga, wx_sa, pk_mul, nI_add, wx_le, wx_lt, wx_eq, wx_en, wx_ne', wx_nn, wx_ltn, wx_len, wx_nlt, wx_nle, wx_bz0, wx_bz1, if_pos, if_neg, wx_ite, Nat.reduceEqDiff, eq_self, if_true, if_false, not_true_eq_false, not_false_eq_true]
      · simp -implicitDefEqProofs (disch := omega) only [e_X12_trait, e_X12_trait__1, e_X12_trait__2, e_X12_trait__3, wx_bd, wx_let, wx_st, wx_lit, wx_ga, wx_sa, pk_mul, nI_add, wx_le, wx_lt, wx_eq, wx_en, wx_ne', wx_nn, wx_ltn, wx_len, wx_nlt, wx_nle, wx_bz0, wx_bz1, if_pos, if_neg, wx_ite, Nat.reduceEqDiff, eq_self, if_true, if_false, not_true_eq_false, not_false_eq_true]
    · refine ⟨7, by omega, fun s hs he => ?_, ?_⟩
      · simp -implicitDefEqProofs (disch := omega) only [e_X8_addTrait, e_X8_addTrait__1, he, i3, wx_bd, wx_let, wx_st, wx_lit, wx_ga, wx_sa, pk_mul, nI_add, wx_le, wx_lt, wx_eq, wx_en, wx_ne', wx_nn, wx_ltn, wx_len, wx_nlt, wx_nle, wx_bz0, wx_bz1, if_pos, if_neg, wx_ite, Nat.reduceEqDiff, eq_self, if_true, if_false, not_true_eq_false, not_false_eq_true]
      · simp -implicitDefEqProofs (disch := omega) only [e_X12_trait, e_X12_trait__1, e_X12_trait__2, e_X12_trait__3, wx_bd, wx_let, wx_st, wx_lit, wx_ga, wx_sa, pk_mul, nI_add, wx_le, wx_lt, wx_eq, wx_en, wx_ne', wx_nn, wx_ltn, wx_len, wx_nlt, wx_nle, wx_bz0, wx_bz1, if_pos, if_neg, wx_ite, Nat.reduceEqDiff, eq_self, if_true, if_false, not_true_eq_false, not_false_eq_true]
    · refine ⟨99, by omega, fun s hs he => ?_, ?_⟩
      · simp -implicitDefEqProofs (disch := omega) only [e_X8_addTrait, e_X8_addTrait__1, he, i3, wx_bd, wx_let, wx_st, wx_lit, wx_ga, wx_sa, pk_mul, nI_add, wx_le, wx_lt, wx_eq, wx_en, wx_ne', wx_nn, wx_ltn, wx_len, wx_nlt, wx_nle, wx_bz0, wx_bz1, if_pos, if_neg, wx_ite, Nat.reduceEqDiff, eq_self, if_true, if_false, not_true_eq_false, not_false_eq_true]
      · simp -implicitDefEqProofs (disch := omega) only [e_X12_trait, e_X12_trait__1, e_X12_trait__2, e_X12_trait__3, wx_bd, wx_let, wx_st, wx_lit, wx_ga, wx_sa, pk_mul, nI_add, wx_le, wx_lt, wx_eq, wx_en, wx_ne', wx_nn, wx_ltn, wx_len, wx_nlt, wx_nle, wx_bz0, wx_bz1, if_pos, if_neg, wx_ite, Nat.reduceEqDiff, eq_self, if_true, if_false, not_true_eq_false, not_false_eq_true]
  obtain ⟨B, B1, B2, B3⟩ := hb
  have hm : (if nI k = -nI 1 then wg_st τ 0 45 (nI 0) q_X12_trait__2 else wg_bd (f_X12_isIn 0 (nI k) (nI 0) (nI 3) τ) (q_X12_trait__3 (nI k) a1 (nI z))) = f_X12_trait_50 0 (nI k) a1 (nI z) (nI B) (nI 0) a1 0 τ := by
    simp -implicitDefEqProofs (disch := omega) only [i4, wx_bd, wx_en, if_false]
    exact B3
  have hc : f_X11_trait 281 (nI k) a1 (nI z) σ = f_X8_addTrait 49 (nI k) a1 (nI z) σ := by
    have bd : ∀ o : Option (Int32 × wg_M), wg_bd o q_X11_trait_36__1 = o := by
      intro o
      match o with
      | none => rfl
      | some (v, s) => rfl
    rcases (show z = 0 ∨ z = 1 by omega) with rfl | rfl
    · simp -implicitDefEqProofs (disch := omega) only [e_X11_trait, e_X11_trait_36, bd, wx_bd, wx_let, wx_st, wx_lit, wx_ga, wx_sa, pk_mul, nI_add, wx_le, wx_lt, wx_eq, wx_en, wx_ne', wx_nn, wx_ltn, wx_len, wx_nlt, wx_nle, wx_bz0, wx_bz1, if_pos, if_neg, wx_ite, Nat.reduceEqDiff, eq_self, if_true, if_false, not_true_eq_false, not_false_eq_true]
    · simp -implicitDefEqProofs (disch := omega) only [e_X11_trait, e_X11_trait_36, bd, wx_bd, wx_let, wx_st, wx_lit, wx_ga, wx_sa, pk_mul, nI_add, wx_le, wx_lt, wx_eq, wx_en, wx_ne', wx_nn, wx_ltn, wx_len, wx_nlt, wx_nle, wx_bz0, wx_bz1, if_pos, if_neg, wx_ite, Nat.reduceEqDiff, eq_self, if_true, if_false, not_true_eq_false, not_false_eq_true]
  rw [hc, hm]
  rcases wk_in a1 0 B (by omega) (by omega) with ⟨j1, j2⟩ | ⟨v, v1, v2, rfl, j3, j4⟩
  · refine ⟨-nI 1, σ, τ, ?_, by simp -implicitDefEqProofs (disch := omega) only [e_X12_trait_50, e_X12_trait_50__1, e_X12_trait_50__2, e_X12_trait_50__3, j2, wx_bd, wx_let, wx_st, wx_lit, wx_ga, wx_sa, pk_mul, nI_add, wx_le, wx_lt, wx_eq, wx_en, wx_ne', wx_nn, wx_ltn, wx_len, wx_nlt, wx_nle, wx_bz0, wx_bz1, if_pos, if_neg, wx_ite, Nat.reduceEqDiff, eq_self, if_true, if_false, not_true_eq_false, not_false_eq_true], h⟩
    by_cases c8 : n = 8
    · simp -implicitDefEqProofs (disch := omega) only [e_X8_addTrait, e_X8_addTrait__1, m2, wx_bd, wx_let, wx_st, wx_lit, wx_ga, wx_sa, pk_mul, nI_add, wx_le, wx_lt, wx_eq, wx_en, wx_ne', wx_nn, wx_ltn, wx_len, wx_nlt, wx_nle, wx_bz0, wx_bz1, if_pos, if_neg, wx_ite, Nat.reduceEqDiff, eq_self, if_true, if_false, not_true_eq_false, not_false_eq_true]
    · rw [B2 σ (by omega) m2]
      simp -implicitDefEqProofs (disch := omega) only [e_X8_addTrait_40, e_X8_addTrait_40__1, e_X8_addTrait_40__2, e_X8_addTrait_40__3, e_X8_addTrait_40__4, e_X8_addTrait_40__5, j1, wx_bd, wx_let, wx_st, wx_lit, wx_ga, wx_sa, pk_mul, nI_add, wx_le, wx_lt, wx_eq, wx_en, wx_ne', wx_nn, wx_ltn, wx_len, wx_nlt, wx_nle, wx_bz0, wx_bz1, if_pos, if_neg, wx_ite, Nat.reduceEqDiff, eq_self, if_true, if_false, not_true_eq_false, not_false_eq_true]
  by_cases c8 : n = 8
  · exact ⟨-nI 1, σ, τ, by simp -implicitDefEqProofs (disch := omega) only [e_X8_addTrait, e_X8_addTrait__1, m2, wx_bd, wx_let, wx_st, wx_lit, wx_ga, wx_sa, pk_mul, nI_add, wx_le, wx_lt, wx_eq, wx_en, wx_ne', wx_nn, wx_ltn, wx_len, wx_nlt, wx_nle, wx_bz0, wx_bz1, if_pos, if_neg, wx_ite, Nat.reduceEqDiff, eq_self, if_true, if_false, not_true_eq_false, not_false_eq_true], by simp -implicitDefEqProofs (disch := omega) only [e_X12_trait_50, e_X12_trait_50__1, e_X12_trait_50__2, e_X12_trait_50__3, j4, m3, wx_bd, wx_let, wx_st, wx_lit, wx_ga, wx_sa, pk_mul, nI_add, wx_le, wx_lt, wx_eq, wx_en, wx_ne', wx_nn, wx_ltn, wx_len, wx_nlt, wx_nle, wx_bz0, wx_bz1, if_pos, if_neg, wx_ite, Nat.reduceEqDiff, eq_self, if_true, if_false, not_true_eq_false, not_false_eq_true], h⟩
  rw [B2 σ (by omega) m2]
  refine ⟨nI (n + 1), wg_u (wg_u (wg_u (wg_u σ 50 n (nI k)) 51 n (nI v)) 52 n (nI z)) 49 3 (nI (n + 1)), wg_u (wg_u (wg_u (wg_u τ 24 n (nI k)) 25 n (nI v)) 26 n (nI z)) 0 45 (nI (n + 1)), by simp -implicitDefEqProofs (disch := omega) only [e_X8_addTrait_40, e_X8_addTrait_40__1, e_X8_addTrait_40__2, e_X8_addTrait_40__3, e_X8_addTrait_40__4, e_X8_addTrait_40__5, m2, j3, wx_uk, wx_un, pk_us, pk_un, wx_bd, wx_let, wx_st, wx_lit, wx_ga, wx_sa, pk_mul, nI_add, wx_le, wx_lt, wx_eq, wx_en, wx_ne', wx_nn, wx_ltn, wx_len, wx_nlt, wx_nle, wx_bz0, wx_bz1, if_pos, if_neg, wx_ite, Nat.reduceEqDiff, eq_self, if_true, if_false, not_true_eq_false, not_false_eq_true], ?_, ?_⟩
  · rcases (show z = 0 ∨ z = 1 by omega) with rfl | rfl
    · simp -implicitDefEqProofs (disch := omega) only [e_X12_trait_50, e_X12_trait_50__1, e_X12_trait_50__2, e_X12_trait_50__3, e_X12_trait_104, e_X12_trait_104__1, e_X12_trait_104__2, sm_n26, j4, m3, wx_uk, wx_un, pk_us, pk_un, wx_bd, wx_let, wx_st, wx_lit, wx_ga, wx_sa, pk_mul, nI_add, wx_le, wx_lt, wx_eq, wx_en, wx_ne', wx_nn, wx_ltn, wx_len, wx_nlt, wx_nle, wx_bz0, wx_bz1, if_pos, if_neg, wx_ite, Nat.reduceEqDiff, eq_self, if_true, if_false, not_true_eq_false, not_false_eq_true]
    · simp -implicitDefEqProofs (disch := omega) only [e_X12_trait_50, e_X12_trait_50__1, e_X12_trait_50__2, e_X12_trait_50__3, e_X12_trait_104, e_X12_trait_104__1, e_X12_trait_104__2, sm_n26, j4, m3, wx_uk, wx_un, pk_us, pk_un, wx_bd, wx_let, wx_st, wx_lit, wx_ga, wx_sa, pk_mul, nI_add, wx_le, wx_lt, wx_eq, wx_en, wx_ne', wx_nn, wx_ltn, wx_len, wx_nlt, wx_nle, wx_bz0, wx_bz1, if_pos, if_neg, wx_ite, Nat.reduceEqDiff, eq_self, if_true, if_false, not_true_eq_false, not_false_eq_true]
  refine wR_td (fun a ha => by simp -implicitDefEqProofs (disch := omega) only [wx_uk, wx_un, pk_us, pk_un]) (fun a i _ ha q => ?_) ⟨h1, h2, h3, h4, h5⟩ hP hI hD hF ?_ ?_ ?_ ?_
  · by_cases ca : a = 0
    · subst ca
      have := q rfl
      simp -implicitDefEqProofs (disch := omega) only [wx_uk, wx_un, pk_us, pk_un]
    · simp -implicitDefEqProofs (disch := omega) only [wx_uk, wx_un, pk_us, pk_un]
  · refine ⟨n + 1, by omega, by simp -implicitDefEqProofs (disch := omega) only [wx_uk, wx_un, pk_us, pk_un], by simp -implicitDefEqProofs (disch := omega) only [wx_uk, wx_un, pk_us, pk_un], fun i hi => ?_⟩
    by_cases c : i = n
    · subst c
      simp -implicitDefEqProofs (disch := omega) only [Nat.zero_add, wx_uk, wx_un, pk_us, pk_un]
      refine ⟨trivial, trivial, trivial, ⟨k, by omega, rfl⟩, ?_⟩
      rcases (show z = 0 ∨ z = 1 by omega) with rfl | rfl
      · exact Or.inl rfl
      · exact Or.inr rfl
    · have := m4 i (by omega)
      simp -implicitDefEqProofs (disch := omega) only [Nat.zero_add, wx_uk, wx_un, pk_us, pk_un] at this ⊢
      exact this
  · exact wCt_fr (by simp -implicitDefEqProofs (disch := omega) only [wx_uk, wx_un, pk_us, pk_un]) (fun a q1 q2 => by simp -implicitDefEqProofs (disch := omega) only [wx_uk, wx_un, pk_us, pk_un]) (by simp -implicitDefEqProofs (disch := omega) only [wx_uk, wx_un, pk_us, pk_un]) (fun i _ => by simp -implicitDefEqProofs (disch := omega) only [wx_uk, wx_un, pk_us, pk_un]) t2
  · exact wPa_fr (by simp -implicitDefEqProofs (disch := omega) only [wx_uk, wx_un, pk_us, pk_un]) (fun i _ => by simp -implicitDefEqProofs (disch := omega) only [wx_uk, wx_un, pk_us, pk_un]) t3
  · exact wHd_fr (by simp -implicitDefEqProofs (disch := omega) only [wx_uk, wx_un, pk_us, pk_un]) (fun a q1 q2 => by simp -implicitDefEqProofs (disch := omega) only [wx_uk, wx_un, pk_us, pk_un]) (by simp -implicitDefEqProofs (disch := omega) only [wx_uk, wx_un, pk_us, pk_un]) (fun a i q1 q2 _ => by simp -implicitDefEqProofs (disch := omega) only [wx_uk, wx_un, pk_us, pk_un]) t4

/-! what is told anew -/
set_option maxHeartbeats 1000000 in
theorem wl_setM {th : Bool} {nw nj nc : Nat} {σ τ : wg_M} (h : wX th nw nj nc σ τ) {j : Nat} (hj : j < nj) (v : Int32) : wX th nw nj nc (wg_u σ 13 j v) (wg_u τ 5 j v) := by
  obtain ⟨⟨n1, n2, n3, n4, n5, n6⟩, ⟨a1, a2, a3, a4, a5⟩, x3, x4, x5⟩ := h
  refine ⟨⟨n1, n2, n3, n4, n5, n6⟩, ⟨a1, fun i hi => ?_, fun w hv => ?_, fun c hc => ?_, a5⟩, ?_, ?_, x5⟩
  · have u := a2 i hi
    unfold wJ at u ⊢
    by_cases ci : i = j
    · subst ci
      simp -implicitDefEqProofs (disch := omega) only [Nat.reduceAdd, wx_uk, wx_un, pk_us, pk_un] at u ⊢
      exact ⟨u.1, trivial, u.2.2⟩
    · simp -implicitDefEqProofs (disch := omega) only [Nat.reduceAdd, wx_uk, wx_un, pk_us, pk_un] at u ⊢
      exact u
  · obtain ⟨c1, c2, c3, c4, c5, k, c6, c7, c8⟩ := a3 w hv
    exact ⟨c1, c2, c3, c4, c5, k, c6, c7, c8⟩
  · exact a4 c hc
  · exact wPg_fr (fun a q1 q2 => by simp -implicitDefEqProofs (disch := omega) only [wx_uk, wx_un, pk_us, pk_un]) (fun i _ => by simp -implicitDefEqProofs (disch := omega) only [wx_uk, wx_un, pk_us, pk_un]) x3
  · exact wRt_fr (fun a q1 q2 q3 q4 => by simp -implicitDefEqProofs (disch := omega) only [wx_uk, wx_un, pk_us, pk_un]) (fun a i q q1 q8 q4 q5 q6 q7 q0 => by simp -implicitDefEqProofs (disch := omega) only [wx_un]) x4
set_option maxHeartbeats 1000000 in
theorem wl_setR {th : Bool} {nw nj nc : Nat} {σ τ : wg_M} (h : wX th nw nj nc σ τ) {c : Nat} (hc : c < nc) (v : Int32) : wX th nw nj nc (wg_u σ 18 c v) (wg_u τ 7 c v) := by
  obtain ⟨⟨n1, n2, n3, n4, n5, n6⟩, ⟨a1, a2, a3, a4, a5⟩, x3, x4, x5⟩ := h
  refine ⟨⟨n1, n2, n3, n4, n5, n6⟩, ⟨a1, fun i hi => a2 i hi, fun w hv => ?_, fun i hi => ?_, a5⟩, ?_, ?_, x5⟩
  · obtain ⟨c1, c2, c3, c4, c5, k, c6, c7, c8⟩ := a3 w hv
    exact ⟨c1, c2, c3, c4, c5, k, c6, c7, c8⟩
  · have u := a4 i hi
    unfold wC at u ⊢
    by_cases ci : i = c
    · subst ci
      simp -implicitDefEqProofs (disch := omega) only [Nat.reduceAdd, wx_uk, wx_un, pk_us, pk_un] at u ⊢
      exact ⟨u.1, trivial, u.2.2⟩
    · simp -implicitDefEqProofs (disch := omega) only [Nat.reduceAdd, wx_uk, wx_un, pk_us, pk_un] at u ⊢
      exact u
  · exact wPg_fr (fun a q1 q2 => by simp -implicitDefEqProofs (disch := omega) only [wx_uk, wx_un, pk_us, pk_un]) (fun i _ => by simp -implicitDefEqProofs (disch := omega) only [wx_uk, wx_un, pk_us, pk_un]) x3
  · exact wRt_fr (fun a q1 q2 q3 q4 => by simp -implicitDefEqProofs (disch := omega) only [wx_uk, wx_un, pk_us, pk_un]) (fun a i q q1 q8 q4 q5 q6 q7 q0 => by simp -implicitDefEqProofs (disch := omega) only [wx_un]) x4
set_option maxHeartbeats 1000000 in
/-- a place of the class is told anew -/
theorem wl_tellAnew {σ : wg_M} {k N j : Nat} {v lo hi : Int32} (hN : wg_n Sc k = N) (hN0 : 0 < N) (hN1 : N < 1000) (hj : j < N) : (f_X11_within v lo hi σ = some (nI 0, σ) → f_X11_tellAnew 281 k (nI j) v lo hi σ = some (nI 0, σ)) ∧ (f_X11_within v lo hi σ = some (nI 1, σ) → f_X11_tellAnew 281 k (nI j) v lo hi σ = some (nI 1, wg_u (wg_u σ 258 2 (nI 0)) k j v)) := by
  have e1 : Int32.ofNat N - nI 1 = nI (N - 1) := by
    rw [show Int32.ofNat N = nI N from rfl]; exact pk_sub (by omega)
  have w1 : f_X11_within (nI j) (nI 0) (nI (N - 1)) σ = some (nI 1, σ) := by simp -implicitDefEqProofs (disch := omega) only [e_X11_within, wx_bd, wx_let, wx_st, wx_lit, wx_ga, wx_sa, pk_mul, nI_add, wx_le, wx_lt, wx_eq, wx_en, wx_ne', wx_nn, wx_ltn, wx_len, wx_nlt, wx_nle, wx_bz0, wx_bz1, if_pos, if_neg, wx_ite, Nat.reduceEqDiff, eq_self, if_true, if_false, not_true_eq_false, not_false_eq_true]
  constructor
  · intro h
    unfold f_X11_tellAnew
    simp -implicitDefEqProofs (disch := omega) only [hN, e1, w1, h, wx_bd, wx_let, wx_st, wx_lit, wx_ga, wx_sa, pk_mul, nI_add, wx_le, wx_lt, wx_eq, wx_en, wx_ne', wx_nn, wx_ltn, wx_len, wx_nlt, wx_nle, wx_bz0, wx_bz1, if_pos, if_neg, wx_ite, Nat.reduceEqDiff, eq_self, if_true, if_false, not_true_eq_false, not_false_eq_true]
  · intro h
    unfold f_X11_tellAnew
    simp -implicitDefEqProofs (disch := omega) only [hN, e1, w1, h, sc_r281_2, e_X5_forget, e_X5_forget__1, wx_bd, wx_let, wx_st, wx_lit, wx_ga, wx_sa, pk_mul, nI_add, wx_le, wx_lt, wx_eq, wx_en, wx_ne', wx_nn, wx_ltn, wx_len, wx_nlt, wx_nle, wx_bz0, wx_bz1, if_pos, if_neg, wx_ite, Nat.reduceEqDiff, eq_self, if_true, if_false, not_true_eq_false, not_false_eq_true]
set_option maxHeartbeats 1000000 in
theorem ws_set : wp_set wR := by
  intro σ τ a0 a1 a2 h
  have h := wR_told (nI 0) h
  simp only [e_X12_set, wx_st, wx_lit]
  generalize wg_u τ 0 0 (nI 0) = τ at h ⊢
  obtain ⟨nw, nj, nc, hX, hY, hP, hI, hD⟩ := wR_X h
  obtain ⟨n1, n2, n3, n4, n5, n6⟩ := id hX.1
  have X1 : wX false nw nj nc (wg_u σ 258 2 (nI 0)) τ := wX_r hX (fun a q => wx_un (by omega)) (fun _ _ => rfl) (fun _ _ _ => rfl)
  obtain ⟨n, nx, p1, p2, p3, p4, -⟩ := hP
  rcases wx_cs a0 4 with ⟨k, hk, rfl⟩ | hout
  · rcases (show k = 0 ∨ k = 1 ∨ k = 2 ∨ k = 3 by omega) with rfl | rfl | rfl | rfl
    · rcases wk_jdg (wb_nj hX.2.1) n5 n2 a1 with ⟨c1, c2⟩ | ⟨j, hj, rfl, c1, c2⟩
      · exact ⟨nI 0, σ, τ, by simp -implicitDefEqProofs (disch := omega) only [e_X11_set, e_X11_set__1, e_X11_set__2, e_X11_set__3, e_X11_set__4, e_X11_set__5, e_X11_set__6, e_X11_set__7, e_X11_set__8, wx_swk0, c1, wx_bd, wx_let, wx_st, wx_lit, wx_ga, wx_sa, pk_mul, nI_add, wx_le, wx_lt, wx_eq, wx_en, wx_ne', wx_nn, wx_ltn, wx_len, wx_nlt, wx_nle, wx_bz0, wx_bz1, if_pos, if_neg, wx_ite, Nat.reduceEqDiff, eq_self, if_true, if_false, not_true_eq_false, not_false_eq_true], by simp -implicitDefEqProofs (disch := omega) only [e_X12_set, e_X12_set__1, e_X12_set__2, e_X12_set__3, e_X12_canSet, e_X12_canSet__1, e_X12_canSet__2, e_X12_canSet__3, e_X12_canSet__4, e_X12_canSet__5, e_X12_canSet__6, e_X12_canSet__7, e_X12_canSet__8, c2, wx_bd, wx_let, wx_st, wx_lit, wx_ga, wx_sa, pk_mul, nI_add, wx_le, wx_lt, wx_eq, wx_en, wx_ne', wx_nn, wx_ltn, wx_len, wx_nlt, wx_nle, wx_bz0, wx_bz1, if_pos, if_neg, wx_ite, Nat.reduceEqDiff, eq_self, if_true, if_false, not_true_eq_false, not_false_eq_true], h⟩
      · obtain ⟨T1, T2⟩ := wl_tellAnew (σ := σ) (k := 12) (N := 10) (j := j) (v := a2) (lo := nI 0) (hi := nI 120) (by decide) (by omega) (by omega) (by omega)
        rcases wk_in a2 0 120 (by omega) (by omega) with ⟨i1, i2⟩ | ⟨y, -, -, rfl, i1, i2⟩
        · exact ⟨nI 0, σ, τ, by simp -implicitDefEqProofs (disch := omega) only [e_X11_set, e_X11_set__1, e_X11_set__2, e_X11_set__3, e_X11_set__4, e_X11_set__5, e_X11_set__6, e_X11_set__7, e_X11_set__8, wx_swk0, c1, T1 (i1 σ), wx_bd, wx_let, wx_st, wx_lit, wx_ga, wx_sa, pk_mul, nI_add, wx_le, wx_lt, wx_eq, wx_en, wx_ne', wx_nn, wx_ltn, wx_len, wx_nlt, wx_nle, wx_bz0, wx_bz1, if_pos, if_neg, wx_ite, Nat.reduceEqDiff, eq_self, if_true, if_false, not_true_eq_false, not_false_eq_true], by simp -implicitDefEqProofs (disch := omega) only [e_X12_set, e_X12_set__1, e_X12_set__2, e_X12_set__3, e_X12_canSet, e_X12_canSet__1, e_X12_canSet__2, e_X12_canSet__3, e_X12_canSet__4, e_X12_canSet__5, e_X12_canSet__6, e_X12_canSet__7, e_X12_canSet__8, c2, i2, wx_bd, wx_let, wx_st, wx_lit, wx_ga, wx_sa, pk_mul, nI_add, wx_le, wx_lt, wx_eq, wx_en, wx_ne', wx_nn, wx_ltn, wx_len, wx_nlt, wx_nle, wx_bz0, wx_bz1, if_pos, if_neg, wx_ite, Nat.reduceEqDiff, eq_self, if_true, if_false, not_true_eq_false, not_false_eq_true], h⟩
        · have X2 := (wl_setJ (c := 12) (o := 3) (v := nI y) X1 hj (Or.inl ⟨rfl, rfl⟩)).1
          refine ⟨nI 1, _, wg_u _ 0 3 (nI 0), ?_, ?_, wR_fg (wX_r X2 (fun _ _ => rfl) (fun i hi => by rw [wx_uk, pk_un hi]) (fun a q1 q2 => wx_un q1)) (wY_fr ?_ hY) ⟨nx, p2, ?_⟩ ?_ ?_ hI hD ?_ ?_ ?_ ?_ ?_⟩
          · simp -implicitDefEqProofs (disch := omega) only [e_X11_set, e_X11_set__1, e_X11_set__2, e_X11_set__3, e_X11_set__4, e_X11_set__5, e_X11_set__6, e_X11_set__7, e_X11_set__8, wx_swk0, c1, T2 (i1 σ), wx_bd, wx_let, wx_st, wx_lit, wx_ga, wx_sa, pk_mul, nI_add, wx_le, wx_lt, wx_eq, wx_en, wx_ne', wx_nn, wx_ltn, wx_len, wx_nlt, wx_nle, wx_bz0, wx_bz1, if_pos, if_neg, wx_ite, Nat.reduceEqDiff, eq_self, if_true, if_false, not_true_eq_false, not_false_eq_true]
          · simp -implicitDefEqProofs (disch := omega) only [e_X12_set_69, e_X12_set_69__1, e_X12_set_69__1, e_X12_set_57, e_X12_set_57__1, e_X12_set_57__1, e_X12_set_42, e_X12_set_42__1, e_X12_set_42__1, e_X12_set_30, e_X12_set_30__1, e_X12_set_30__1, e_X12_set, e_X12_set__1, e_X12_set__2, e_X12_set__3, e_X12_set__1, e_X12_set__2, e_X12_set__3, e_X12_canSet, e_X12_canSet__1, e_X12_canSet__2, e_X12_canSet__3, e_X12_canSet__4, e_X12_canSet__5, e_X12_canSet__6, e_X12_canSet__7, e_X12_canSet__8, c2, i2, wx_bd, wx_let, wx_st, wx_lit, wx_ga, wx_sa, pk_mul, nI_add, wx_le, wx_lt, wx_eq, wx_en, wx_ne', wx_nn, wx_ltn, wx_len, wx_nlt, wx_nle, wx_bz0, wx_bz1, if_pos, if_neg, wx_ite, Nat.reduceEqDiff, eq_self, if_true, if_false, not_true_eq_false, not_false_eq_true]
          · simp -implicitDefEqProofs (disch := omega) only [wx_uk, wx_un, pk_us, pk_un]
          · simp -implicitDefEqProofs (disch := omega) only [wx_uk, wx_un, pk_us, pk_un]; exact p4
          · simp -implicitDefEqProofs (disch := omega) only [wx_uk, wx_un, pk_us, pk_un]
          · simp -implicitDefEqProofs (disch := omega) only [wx_uk, wx_un, pk_us, pk_un]
          · intro a q1 q2; simp -implicitDefEqProofs (disch := omega) only [wx_uk, wx_un, pk_us, pk_un]
          · intro i q1; simp -implicitDefEqProofs (disch := omega) only [wx_uk, wx_un, pk_us, pk_un]
          all_goals simp -implicitDefEqProofs (disch := omega) only [wx_uk, wx_un, pk_us, pk_un]
    · rcases wk_jdg (wb_nj hX.2.1) n5 n2 a1 with ⟨c1, c2⟩ | ⟨j, hj, rfl, c1, c2⟩
      · exact ⟨nI 0, σ, τ, by simp -implicitDefEqProofs (disch := omega) only [e_X11_set, e_X11_set__1, e_X11_set__2, e_X11_set__3, e_X11_set__4, e_X11_set__5, e_X11_set__6, e_X11_set__7, e_X11_set__8, wx_swk1, c1, wx_bd, wx_let, wx_st, wx_lit, wx_ga, wx_sa, pk_mul, nI_add, wx_le, wx_lt, wx_eq, wx_en, wx_ne', wx_nn, wx_ltn, wx_len, wx_nlt, wx_nle, wx_bz0, wx_bz1, if_pos, if_neg, wx_ite, Nat.reduceEqDiff, eq_self, if_true, if_false, not_true_eq_false, not_false_eq_true], by simp -implicitDefEqProofs (disch := omega) only [e_X12_set, e_X12_set__1, e_X12_set__2, e_X12_set__3, e_X12_canSet, e_X12_canSet__1, e_X12_canSet__2, e_X12_canSet__3, e_X12_canSet__4, e_X12_canSet__5, e_X12_canSet__6, e_X12_canSet__7, e_X12_canSet__8, c2, wx_bd, wx_let, wx_st, wx_lit, wx_ga, wx_sa, pk_mul, nI_add, wx_le, wx_lt, wx_eq, wx_en, wx_ne', wx_nn, wx_ltn, wx_len, wx_nlt, wx_nle, wx_bz0, wx_bz1, if_pos, if_neg, wx_ite, Nat.reduceEqDiff, eq_self, if_true, if_false, not_true_eq_false, not_false_eq_true], h⟩
      · obtain ⟨T1, T2⟩ := wl_tellAnew (σ := σ) (k := 13) (N := 10) (j := j) (v := a2) (lo := -nI 9) (hi := nI 9) (by decide) (by omega) (by omega) (by omega)
        rcases wk_inn a2 9 9 (by omega) (by omega) with ⟨i1, i2⟩ | ⟨-, -, i1, i2⟩
        · exact ⟨nI 0, σ, τ, by simp -implicitDefEqProofs (disch := omega) only [e_X11_set, e_X11_set__1, e_X11_set__2, e_X11_set__3, e_X11_set__4, e_X11_set__5, e_X11_set__6, e_X11_set__7, e_X11_set__8, wx_swk1, c1, T1 (i1 σ), wx_bd, wx_let, wx_st, wx_lit, wx_ga, wx_sa, pk_mul, nI_add, wx_le, wx_lt, wx_eq, wx_en, wx_ne', wx_nn, wx_ltn, wx_len, wx_nlt, wx_nle, wx_bz0, wx_bz1, if_pos, if_neg, wx_ite, Nat.reduceEqDiff, eq_self, if_true, if_false, not_true_eq_false, not_false_eq_true], by simp -implicitDefEqProofs (disch := omega) only [e_X12_set, e_X12_set__1, e_X12_set__2, e_X12_set__3, e_X12_canSet, e_X12_canSet__1, e_X12_canSet__2, e_X12_canSet__3, e_X12_canSet__4, e_X12_canSet__5, e_X12_canSet__6, e_X12_canSet__7, e_X12_canSet__8, c2, i2, wx_bd, wx_let, wx_st, wx_lit, wx_ga, wx_sa, pk_mul, nI_add, wx_le, wx_lt, wx_eq, wx_en, wx_ne', wx_nn, wx_ltn, wx_len, wx_nlt, wx_nle, wx_bz0, wx_bz1, if_pos, if_neg, wx_ite, Nat.reduceEqDiff, eq_self, if_true, if_false, not_true_eq_false, not_false_eq_true], h⟩
        · have X2 := wl_setM X1 hj a2
          refine ⟨nI 1, _, wg_u _ 0 3 (nI 0), ?_, ?_, wR_fg (wX_r X2 (fun _ _ => rfl) (fun i hi => by rw [wx_uk, pk_un hi]) (fun a q1 q2 => wx_un q1)) (wY_fr ?_ hY) ⟨nx, p2, ?_⟩ ?_ ?_ hI hD ?_ ?_ ?_ ?_ ?_⟩
          · simp -implicitDefEqProofs (disch := omega) only [e_X11_set, e_X11_set__1, e_X11_set__2, e_X11_set__3, e_X11_set__4, e_X11_set__5, e_X11_set__6, e_X11_set__7, e_X11_set__8, wx_swk1, c1, T2 (i1 σ), wx_bd, wx_let, wx_st, wx_lit, wx_ga, wx_sa, pk_mul, nI_add, wx_le, wx_lt, wx_eq, wx_en, wx_ne', wx_nn, wx_ltn, wx_len, wx_nlt, wx_nle, wx_bz0, wx_bz1, if_pos, if_neg, wx_ite, Nat.reduceEqDiff, eq_self, if_true, if_false, not_true_eq_false, not_false_eq_true]
          · simp -implicitDefEqProofs (disch := omega) only [e_X12_set_69, e_X12_set_69__1, e_X12_set_69__1, e_X12_set_57, e_X12_set_57__1, e_X12_set_57__1, e_X12_set_42, e_X12_set_42__1, e_X12_set_42__1, e_X12_set_30, e_X12_set_30__1, e_X12_set_30__1, e_X12_set, e_X12_set__1, e_X12_set__2, e_X12_set__3, e_X12_set__1, e_X12_set__2, e_X12_set__3, e_X12_canSet, e_X12_canSet__1, e_X12_canSet__2, e_X12_canSet__3, e_X12_canSet__4, e_X12_canSet__5, e_X12_canSet__6, e_X12_canSet__7, e_X12_canSet__8, c2, i2, wx_bd, wx_let, wx_st, wx_lit, wx_ga, wx_sa, pk_mul, nI_add, wx_le, wx_lt, wx_eq, wx_en, wx_ne', wx_nn, wx_ltn, wx_len, wx_nlt, wx_nle, wx_bz0, wx_bz1, if_pos, if_neg, wx_ite, Nat.reduceEqDiff, eq_self, if_true, if_false, not_true_eq_false, not_false_eq_true]
          · simp -implicitDefEqProofs (disch := omega) only [wx_uk, wx_un, pk_us, pk_un]
          · simp -implicitDefEqProofs (disch := omega) only [wx_uk, wx_un, pk_us, pk_un]; exact p4
          · simp -implicitDefEqProofs (disch := omega) only [wx_uk, wx_un, pk_us, pk_un]
          · simp -implicitDefEqProofs (disch := omega) only [wx_uk, wx_un, pk_us, pk_un]
          · intro a q1 q2; simp -implicitDefEqProofs (disch := omega) only [wx_uk, wx_un, pk_us, pk_un]
          · intro i q1; simp -implicitDefEqProofs (disch := omega) only [wx_uk, wx_un, pk_us, pk_un]
          all_goals simp -implicitDefEqProofs (disch := omega) only [wx_uk, wx_un, pk_us, pk_un]
    · rcases wk_wig (wb_nw hX.2.1) n4 n1 a1 with ⟨c1, c2⟩ | ⟨j, hj, rfl, c1, c2⟩
      · exact ⟨nI 0, σ, τ, by simp -implicitDefEqProofs (disch := omega) only [e_X11_set, e_X11_set__1, e_X11_set__2, e_X11_set__3, e_X11_set__4, e_X11_set__5, e_X11_set__6, e_X11_set__7, e_X11_set__8, wx_swk2, c1, wx_bd, wx_let, wx_st, wx_lit, wx_ga, wx_sa, pk_mul, nI_add, wx_le, wx_lt, wx_eq, wx_en, wx_ne', wx_nn, wx_ltn, wx_len, wx_nlt, wx_nle, wx_bz0, wx_bz1, if_pos, if_neg, wx_ite, Nat.reduceEqDiff, eq_self, if_true, if_false, not_true_eq_false, not_false_eq_true], by simp -implicitDefEqProofs (disch := omega) only [e_X12_set, e_X12_set__1, e_X12_set__2, e_X12_set__3, e_X12_canSet, e_X12_canSet__1, e_X12_canSet__2, e_X12_canSet__3, e_X12_canSet__4, e_X12_canSet__5, e_X12_canSet__6, e_X12_canSet__7, e_X12_canSet__8, c2, wx_bd, wx_let, wx_st, wx_lit, wx_ga, wx_sa, pk_mul, nI_add, wx_le, wx_lt, wx_eq, wx_en, wx_ne', wx_nn, wx_ltn, wx_len, wx_nlt, wx_nle, wx_bz0, wx_bz1, if_pos, if_neg, wx_ite, Nat.reduceEqDiff, eq_self, if_true, if_false, not_true_eq_false, not_false_eq_true], h⟩
      · obtain ⟨T1, T2⟩ := wl_tellAnew (σ := σ) (k := 4) (N := 8) (j := j) (v := a2) (lo := nI 0) (hi := nI 99) (by decide) (by omega) (by omega) (by omega)
        rcases wk_in a2 0 99 (by omega) (by omega) with ⟨i1, i2⟩ | ⟨y, -, -, rfl, i1, i2⟩
        · exact ⟨nI 0, σ, τ, by simp -implicitDefEqProofs (disch := omega) only [e_X11_set, e_X11_set__1, e_X11_set__2, e_X11_set__3, e_X11_set__4, e_X11_set__5, e_X11_set__6, e_X11_set__7, e_X11_set__8, wx_swk2, c1, T1 (i1 σ), wx_bd, wx_let, wx_st, wx_lit, wx_ga, wx_sa, pk_mul, nI_add, wx_le, wx_lt, wx_eq, wx_en, wx_ne', wx_nn, wx_ltn, wx_len, wx_nlt, wx_nle, wx_bz0, wx_bz1, if_pos, if_neg, wx_ite, Nat.reduceEqDiff, eq_self, if_true, if_false, not_true_eq_false, not_false_eq_true], by simp -implicitDefEqProofs (disch := omega) only [e_X12_set, e_X12_set__1, e_X12_set__2, e_X12_set__3, e_X12_canSet, e_X12_canSet__1, e_X12_canSet__2, e_X12_canSet__3, e_X12_canSet__4, e_X12_canSet__5, e_X12_canSet__6, e_X12_canSet__7, e_X12_canSet__8, c2, i2, wx_bd, wx_let, wx_st, wx_lit, wx_ga, wx_sa, pk_mul, nI_add, wx_le, wx_lt, wx_eq, wx_en, wx_ne', wx_nn, wx_ltn, wx_len, wx_nlt, wx_nle, wx_bz0, wx_bz1, if_pos, if_neg, wx_ite, Nat.reduceEqDiff, eq_self, if_true, if_false, not_true_eq_false, not_false_eq_true], h⟩
        · have X2 := (wl_setW (c := 4) (o := 43) (v := nI y) X1 hj (Or.inl ⟨rfl, rfl⟩)).1
          refine ⟨nI 1, _, wg_u _ 0 3 (nI 0), ?_, ?_, wR_fg (wX_r X2 (fun _ _ => rfl) (fun i hi => by rw [wx_uk, pk_un hi]) (fun a q1 q2 => wx_un q1)) (wY_fr ?_ hY) ⟨nx, p2, ?_⟩ ?_ ?_ hI hD ?_ ?_ ?_ ?_ ?_⟩
          · simp -implicitDefEqProofs (disch := omega) only [e_X11_set, e_X11_set__1, e_X11_set__2, e_X11_set__3, e_X11_set__4, e_X11_set__5, e_X11_set__6, e_X11_set__7, e_X11_set__8, wx_swk2, c1, T2 (i1 σ), wx_bd, wx_let, wx_st, wx_lit, wx_ga, wx_sa, pk_mul, nI_add, wx_le, wx_lt, wx_eq, wx_en, wx_ne', wx_nn, wx_ltn, wx_len, wx_nlt, wx_nle, wx_bz0, wx_bz1, if_pos, if_neg, wx_ite, Nat.reduceEqDiff, eq_self, if_true, if_false, not_true_eq_false, not_false_eq_true]
          · simp -implicitDefEqProofs (disch := omega) only [e_X12_set_69, e_X12_set_69__1, e_X12_set_69__1, e_X12_set_57, e_X12_set_57__1, e_X12_set_57__1, e_X12_set_42, e_X12_set_42__1, e_X12_set_42__1, e_X12_set_30, e_X12_set_30__1, e_X12_set_30__1, e_X12_set, e_X12_set__1, e_X12_set__2, e_X12_set__3, e_X12_set__1, e_X12_set__2, e_X12_set__3, e_X12_canSet, e_X12_canSet__1, e_X12_canSet__2, e_X12_canSet__3, e_X12_canSet__4, e_X12_canSet__5, e_X12_canSet__6, e_X12_canSet__7, e_X12_canSet__8, c2, i2, wx_bd, wx_let, wx_st, wx_lit, wx_ga, wx_sa, pk_mul, nI_add, wx_le, wx_lt, wx_eq, wx_en, wx_ne', wx_nn, wx_ltn, wx_len, wx_nlt, wx_nle, wx_bz0, wx_bz1, if_pos, if_neg, wx_ite, Nat.reduceEqDiff, eq_self, if_true, if_false, not_true_eq_false, not_false_eq_true]
          · simp -implicitDefEqProofs (disch := omega) only [wx_uk, wx_un, pk_us, pk_un]
          · simp -implicitDefEqProofs (disch := omega) only [wx_uk, wx_un, pk_us, pk_un]; exact p4
          · simp -implicitDefEqProofs (disch := omega) only [wx_uk, wx_un, pk_us, pk_un]
          · simp -implicitDefEqProofs (disch := omega) only [wx_uk, wx_un, pk_us, pk_un]
          · intro a q1 q2; simp -implicitDefEqProofs (disch := omega) only [wx_uk, wx_un, pk_us, pk_un]
          · intro i q1; simp -implicitDefEqProofs (disch := omega) only [wx_uk, wx_un, pk_us, pk_un]
          all_goals simp -implicitDefEqProofs (disch := omega) only [wx_uk, wx_un, pk_us, pk_un]
    · rcases wk_tri (wb_nc hX.2.1) n6 n3 a1 with ⟨c1, c2⟩ | ⟨j, hj, rfl, c1, c2⟩
      · exact ⟨nI 0, σ, τ, by simp -implicitDefEqProofs (disch := omega) only [e_X11_set, e_X11_set__1, e_X11_set__2, e_X11_set__3, e_X11_set__4, e_X11_set__5, e_X11_set__6, e_X11_set__7, e_X11_set__8, wx_swk3, c1, wx_bd, wx_let, wx_st, wx_lit, wx_ga, wx_sa, pk_mul, nI_add, wx_le, wx_lt, wx_eq, wx_en, wx_ne', wx_nn, wx_ltn, wx_len, wx_nlt, wx_nle, wx_bz0, wx_bz1, if_pos, if_neg, wx_ite, Nat.reduceEqDiff, eq_self, if_true, if_false, not_true_eq_false, not_false_eq_true], by simp -implicitDefEqProofs (disch := omega) only [e_X12_set, e_X12_set__1, e_X12_set__2, e_X12_set__3, e_X12_canSet, e_X12_canSet__1, e_X12_canSet__2, e_X12_canSet__3, e_X12_canSet__4, e_X12_canSet__5, e_X12_canSet__6, e_X12_canSet__7, e_X12_canSet__8, c2, wx_bd, wx_let, wx_st, wx_lit, wx_ga, wx_sa, pk_mul, nI_add, wx_le, wx_lt, wx_eq, wx_en, wx_ne', wx_nn, wx_ltn, wx_len, wx_nlt, wx_nle, wx_bz0, wx_bz1, if_pos, if_neg, wx_ite, Nat.reduceEqDiff, eq_self, if_true, if_false, not_true_eq_false, not_false_eq_true], h⟩
      · obtain ⟨T1, T2⟩ := wl_tellAnew (σ := σ) (k := 18) (N := 14) (j := j) (v := a2) (lo := -nI 99) (hi := nI 99) (by decide) (by omega) (by omega) (by omega)
        rcases wk_inn a2 99 99 (by omega) (by omega) with ⟨i1, i2⟩ | ⟨-, -, i1, i2⟩
        · exact ⟨nI 0, σ, τ, by simp -implicitDefEqProofs (disch := omega) only [e_X11_set, e_X11_set__1, e_X11_set__2, e_X11_set__3, e_X11_set__4, e_X11_set__5, e_X11_set__6, e_X11_set__7, e_X11_set__8, wx_swk3, c1, T1 (i1 σ), wx_bd, wx_let, wx_st, wx_lit, wx_ga, wx_sa, pk_mul, nI_add, wx_le, wx_lt, wx_eq, wx_en, wx_ne', wx_nn, wx_ltn, wx_len, wx_nlt, wx_nle, wx_bz0, wx_bz1, if_pos, if_neg, wx_ite, Nat.reduceEqDiff, eq_self, if_true, if_false, not_true_eq_false, not_false_eq_true], by simp -implicitDefEqProofs (disch := omega) only [e_X12_set, e_X12_set__1, e_X12_set__2, e_X12_set__3, e_X12_canSet, e_X12_canSet__1, e_X12_canSet__2, e_X12_canSet__3, e_X12_canSet__4, e_X12_canSet__5, e_X12_canSet__6, e_X12_canSet__7, e_X12_canSet__8, c2, i2, wx_bd, wx_let, wx_st, wx_lit, wx_ga, wx_sa, pk_mul, nI_add, wx_le, wx_lt, wx_eq, wx_en, wx_ne', wx_nn, wx_ltn, wx_len, wx_nlt, wx_nle, wx_bz0, wx_bz1, if_pos, if_neg, wx_ite, Nat.reduceEqDiff, eq_self, if_true, if_false, not_true_eq_false, not_false_eq_true], h⟩
        · have X2 := wl_setR X1 hj a2
          refine ⟨nI 1, _, wg_u _ 0 3 (nI 0), ?_, ?_, wR_fg (wX_r X2 (fun _ _ => rfl) (fun i hi => by rw [wx_uk, pk_un hi]) (fun a q1 q2 => wx_un q1)) (wY_fr ?_ hY) ⟨nx, p2, ?_⟩ ?_ ?_ hI hD ?_ ?_ ?_ ?_ ?_⟩
          · simp -implicitDefEqProofs (disch := omega) only [e_X11_set, e_X11_set__1, e_X11_set__2, e_X11_set__3, e_X11_set__4, e_X11_set__5, e_X11_set__6, e_X11_set__7, e_X11_set__8, wx_swk3, c1, T2 (i1 σ), wx_bd, wx_let, wx_st, wx_lit, wx_ga, wx_sa, pk_mul, nI_add, wx_le, wx_lt, wx_eq, wx_en, wx_ne', wx_nn, wx_ltn, wx_len, wx_nlt, wx_nle, wx_bz0, wx_bz1, if_pos, if_neg, wx_ite, Nat.reduceEqDiff, eq_self, if_true, if_false, not_true_eq_false, not_false_eq_true]
          · simp -implicitDefEqProofs (disch := omega) only [e_X12_set_69, e_X12_set_69__1, e_X12_set_69__1, e_X12_set_57, e_X12_set_57__1, e_X12_set_57__1, e_X12_set_42, e_X12_set_42__1, e_X12_set_42__1, e_X12_set_30, e_X12_set_30__1, e_X12_set_30__1, e_X12_set, e_X12_set__1, e_X12_set__2, e_X12_set__3, e_X12_set__1, e_X12_set__2, e_X12_set__3, e_X12_canSet, e_X12_canSet__1, e_X12_canSet__2, e_X12_canSet__3, e_X12_canSet__4, e_X12_canSet__5, e_X12_canSet__6, e_X12_canSet__7, e_X12_canSet__8, c2, i2, wx_bd, wx_let, wx_st, wx_lit, wx_ga, wx_sa, pk_mul, nI_add, wx_le, wx_lt, wx_eq, wx_en, wx_ne', wx_nn, wx_ltn, wx_len, wx_nlt, wx_nle, wx_bz0, wx_bz1, if_pos, if_neg, wx_ite, Nat.reduceEqDiff, eq_self, if_true, if_false, not_true_eq_false, not_false_eq_true]
          · simp -implicitDefEqProofs (disch := omega) only [wx_uk, wx_un, pk_us, pk_un]
          · simp -implicitDefEqProofs (disch := omega) only [wx_uk, wx_un, pk_us, pk_un]; exact p4
          · simp -implicitDefEqProofs (disch := omega) only [wx_uk, wx_un, pk_us, pk_un]
          · simp -implicitDefEqProofs (disch := omega) only [wx_uk, wx_un, pk_us, pk_un]
          · intro a q1 q2; simp -implicitDefEqProofs (disch := omega) only [wx_uk, wx_un, pk_us, pk_un]
          · intro i q1; simp -implicitDefEqProofs (disch := omega) only [wx_uk, wx_un, pk_us, pk_un]
          all_goals simp -implicitDefEqProofs (disch := omega) only [wx_uk, wx_un, pk_us, pk_un]
  · have o0 : ¬ a0 = nI 0 := hout 0 (by omega)
    have o1 : ¬ a0 = nI 1 := hout 1 (by omega)
    have o2 : ¬ a0 = nI 2 := hout 2 (by omega)
    have o3 : ¬ a0 = nI 3 := hout 3 (by omega)
    refine ⟨nI 0, σ, τ, ?_, by simp -implicitDefEqProofs (disch := omega) only [e_X12_set, e_X12_set__1, e_X12_set__2, e_X12_set__3, e_X12_canSet, e_X12_canSet__1, e_X12_canSet__2, e_X12_canSet__3, e_X12_canSet__4, e_X12_canSet__5, e_X12_canSet__6, e_X12_canSet__7, e_X12_canSet__8, o0, o1, o2, o3, wx_bd, wx_let, wx_st, wx_lit, wx_ga, wx_sa, pk_mul, nI_add, wx_le, wx_lt, wx_eq, wx_en, wx_ne', wx_nn, wx_ltn, wx_len, wx_nlt, wx_nle, wx_bz0, wx_bz1, if_pos, if_neg, wx_ite, Nat.reduceEqDiff, eq_self, if_true, if_false, not_true_eq_false, not_false_eq_true], h⟩
    rw [e_X11_set, wx_sw_out (fun k hk => hout k (by simpa using hk)) (by simp)]; rfl

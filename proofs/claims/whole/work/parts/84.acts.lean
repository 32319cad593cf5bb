/-! from the bench back to the whole -/
set_option maxHeartbeats 1000000 in
theorem wR_X {σ τ : wg_M} (h : wR σ τ) : ∃ nw nj nc, wX false nw nj nc σ τ ∧ wY (τ 1) ∧ wP nw nj nc σ τ ∧ wIm σ τ ∧ wRd σ τ := by
  obtain ⟨nw, nj, nc, ⟨h1, h2, h3, h4, h5⟩, hP, hI, hD, hF⟩ := h
  exact ⟨nw, nj, nc, ⟨h1, h2, h4, h5, hF.1, hF.2⟩, h3, hP, hI, hD⟩
def wFk (σ σ' τ τ' : wg_M) : Prop := (∀ a, 59 ≤ a → a < 118 ∨ 258 < a → σ' a = σ a) ∧ (∀ i, i ≠ 3 → τ' 0 i = τ 0 i) ∧ τ' 9 = τ 9 ∧ τ' 10 = τ 10 ∧ τ' 33 = τ 33
set_option maxHeartbeats 1000000 in
theorem wFk_rfl {σ τ : wg_M} : wFk σ σ τ τ := ⟨fun _ _ _ => rfl, fun _ _ => rfl, rfl, rfl, rfl⟩
set_option maxHeartbeats 1000000 in
theorem wFk_tr {a b c x y z : wg_M} (h1 : wFk a b x y) (h2 : wFk b c y z) : wFk a c x z := ⟨fun q p1 p2 => (h2.1 q p1 p2).trans (h1.1 q p1 p2), fun q p1 => (h2.2.1 q p1).trans (h1.2.1 q p1), h2.2.2.1.trans h1.2.2.1, h2.2.2.2.1.trans h1.2.2.2.1, h2.2.2.2.2.trans h1.2.2.2.2⟩
set_option maxHeartbeats 1000000 in
theorem wFk_q {σ σ' τ τ' : wg_M} (h : wFq σ σ' τ τ') : wFk σ σ' τ τ' := ⟨fun a p1 p2 => h.1 a (by omega) (by omega) (by omega), fun i _ => by rw [h.2 0 (by omega) (by omega) (by omega) (by omega)], h.2 9 (by omega) (by omega) (by omega) (by omega), h.2 10 (by omega) (by omega) (by omega) (by omega), h.2 33 (by omega) (by omega) (by omega) (by omega)⟩
set_option maxHeartbeats 1000000 in
theorem wFk_r {σ σ' τ τ' : wg_M} (h1 : ∀ a, a < 138 ∨ 258 < a → σ' a = σ a) (h2 : ∀ i, i ≠ 3 → τ' 0 i = τ 0 i) (h3 : ∀ a, a ≠ 0 → a ≠ 2 → τ' a = τ a) : wFk σ σ' τ τ' := ⟨fun a p1 p2 => h1 a (by omega), h2, h3 9 (by omega) (by omega), h3 10 (by omega) (by omega), h3 33 (by omega) (by omega)⟩
set_option maxHeartbeats 1000000 in
theorem wR_mk {nw nj nc : Nat} {σ τ σ' τ' : wg_M} (hX : wX false nw nj nc σ' τ') (hY : wY (τ' 1)) (hP : wP nw nj nc σ' τ') (hI : wIm σ τ) (hD : wRd σ τ) (hf : wFk σ σ' τ τ') : wR σ' τ' := by
  obtain ⟨x1, x2, x3, x4, x5⟩ := hX
  obtain ⟨f1, f2, f3, f4, f5⟩ := hf
  refine ⟨nw, nj, nc, ⟨x1, x2, hY, x3, x4⟩, hP, ?_, ?_, x5⟩
  · exact wIm_fr (by rw [f1 281 (by omega) (by omega)]) (fun a q1 q2 _ _ _ => f1 a (by omega) (by omega)) (f2 58 (by omega)) f5 hI
  · exact wRd_fr (by rw [f1 260 (by omega) (by omega)]) (by rw [f1 260 (by omega) (by omega)]) (by rw [f1 260 (by omega) (by omega)]) (f1 261 (by omega) (by omega)) (f2 15 (by omega)) (f2 35 (by omega)) (f2 36 (by omega)) f3 f4 hD
set_option maxHeartbeats 1000000 in
theorem wX_r {th : Bool} {nw nj nc : Nat} {σ τ σ' τ' : wg_M} (h : wX th nw nj nc σ τ) (h1 : ∀ a, a < 138 ∨ 258 < a → σ' a = σ a) (h2 : ∀ i, i ≠ 3 → τ' 0 i = τ 0 i) (h3 : ∀ a, a ≠ 0 → a ≠ 2 → τ' a = τ a) : wX th nw nj nc σ' τ' := by
  obtain ⟨x1, x2, x3, x4, x5⟩ := h
  have hn : nw ≤ 8 ∧ nj ≤ 10 ∧ nc ≤ 14 := ⟨x1.1, x1.2.1, x1.2.2.1⟩
  refine ⟨wN_fr (h2 6 (by omega)) (h2 7 (by omega)) (h2 8 (by omega)) x1, ?_, ?_, ?_, ?_, ?_⟩
  · exact wB_fr hn (fun a p1 p2 => h1 a (by omega)) (fun i _ => by rw [h3 1 (by omega) (by omega)]) (fun i _ => by rw [h3 4 (by omega) (by omega)]) (fun i _ => by rw [h3 5 (by omega) (by omega)]) (fun i _ => by rw [h3 6 (by omega) (by omega)]) (fun i _ => by rw [h3 7 (by omega) (by omega)]) x2
  · exact wPg_fr (fun a p1 p2 => h1 a (by omega)) (fun i _ => by rw [h3 8 (by omega) (by omega)]) x3
  · refine wRt_fr (fun a p1 p2 p3 p4 => h1 a (by omega)) (fun a i p _ _ _ _ _ _ p0 => ?_) x4
    by_cases ca : a = 0
    · subst ca
      exact h2 i (by have := p0 rfl; omega)
    · rw [h3 a ca (fun e => by subst e; simp [wLv] at p)]
  · rw [h1 279 (by omega)]; exact x5.1
  · rw [h2 5 (by omega)]; exact x5.2
set_option maxHeartbeats 1000000 in
theorem ws_tries : wp_tries wR := by
  intro σ τ a0 a1 h
  have h := wR_told (nI 0) h
  simp only [e_X12_tries, wx_st, wx_lit]
  generalize wg_u τ 0 0 (nI 0) = τ at h ⊢
  obtain ⟨nw, nj, nc, hX, hY, hP, hI, hD⟩ := wR_X h
  obtain ⟨n1, n2, n3, n4, n5, n6⟩ := id hX.1
  rcases wk_tri (wb_nc hX.2.1) n6 n3 a0 with ⟨c1, c2⟩ | ⟨c, hc, rfl, c1, c2⟩
  · exact ⟨-nI 10000, σ, τ, by simp -implicitDefEqProofs (disch := omega) only [e_X11_tries, e_X11_tries__1, e_X11_tries__2, e_X11_tries__3, e_X11_tries__4, e_X1_canTry, e_X1_canTry__1, e_X1_canTry__2, e_X1_canTry__3, c1, wx_bd, wx_let, wx_st, wx_lit, wx_ga, wx_sa, pk_mul, nI_add, wx_le, wx_lt, wx_eq, wx_en, wx_ne', wx_nn, wx_ltn, wx_len, wx_nlt, wx_nle, wx_bz0, wx_bz1, if_pos, if_neg, wx_ite, Nat.reduceEqDiff, eq_self, if_true, if_false, not_true_eq_false, not_false_eq_true], by simp -implicitDefEqProofs (disch := omega) only [e_X12_tries, e_X12_tries__1, e_X12_tries__2, e_X12_tries__3, e_X12_tries__4, e_X12_tries__5, e_X12_tries__6, c2, wx_bd, wx_let, wx_st, wx_lit, wx_ga, wx_sa, pk_mul, nI_add, wx_le, wx_lt, wx_eq, wx_en, wx_ne', wx_nn, wx_ltn, wx_len, wx_nlt, wx_nle, wx_bz0, wx_bz1, if_pos, if_neg, wx_ite, Nat.reduceEqDiff, eq_self, if_true, if_false, not_true_eq_false, not_false_eq_true], h⟩
  · rcases wk_jdg (wb_nj hX.2.1) n5 n2 a1 with ⟨j1, j2⟩ | ⟨j, hj, rfl, j1, j2⟩
    · have hl : f_X2_lives 11 a1 σ = some (nI 0, σ) := by simp -implicitDefEqProofs (disch := omega) only [e_X2_lives, e_X2_lives__1, e_X2_lives__2, j1, wx_bd, wx_let, wx_st, wx_lit, wx_ga, wx_sa, pk_mul, nI_add, wx_le, wx_lt, wx_eq, wx_en, wx_ne', wx_nn, wx_ltn, wx_len, wx_nlt, wx_nle, wx_bz0, wx_bz1, if_pos, if_neg, wx_ite, Nat.reduceEqDiff, eq_self, if_true, if_false, not_true_eq_false, not_false_eq_true]
      have hv := wV_0 (wb_verdict hX.2.1 hc)
      have ht : f_X1_canTry 279 (nI c) a1 σ = some (nI 0, σ) := by
        by_cases cv : τ 1 (267 + c) = nI 0
        · simp -implicitDefEqProofs (disch := omega) only [e_X1_canTry, e_X1_canTry__1, e_X1_canTry__2, e_X1_canTry__3, c1, hv, cv, hl, wx_bd, wx_let, wx_st, wx_lit, wx_ga, wx_sa, pk_mul, nI_add, wx_le, wx_lt, wx_eq, wx_en, wx_ne', wx_nn, wx_ltn, wx_len, wx_nlt, wx_nle, wx_bz0, wx_bz1, if_pos, if_neg, wx_ite, Nat.reduceEqDiff, eq_self, if_true, if_false, not_true_eq_false, not_false_eq_true]
        · simp -implicitDefEqProofs (disch := omega) only [e_X1_canTry, e_X1_canTry__1, e_X1_canTry__2, e_X1_canTry__3, c1, hv, cv, wx_bd, wx_let, wx_st, wx_lit, wx_ga, wx_sa, pk_mul, nI_add, wx_le, wx_lt, wx_eq, wx_en, wx_ne', wx_nn, wx_ltn, wx_len, wx_nlt, wx_nle, wx_bz0, wx_bz1, if_pos, if_neg, wx_ite, Nat.reduceEqDiff, eq_self, if_true, if_false, not_true_eq_false, not_false_eq_true]
      exact ⟨-nI 10000, σ, τ, by simp -implicitDefEqProofs (disch := omega) only [e_X11_tries, e_X11_tries__1, e_X11_tries__2, e_X11_tries__3, e_X11_tries__4, ht, wx_bd, wx_let, wx_st, wx_lit, wx_ga, wx_sa, pk_mul, nI_add, wx_le, wx_lt, wx_eq, wx_en, wx_ne', wx_nn, wx_ltn, wx_len, wx_nlt, wx_nle, wx_bz0, wx_bz1, if_pos, if_neg, wx_ite, Nat.reduceEqDiff, eq_self, if_true, if_false, not_true_eq_false, not_false_eq_true], by simp -implicitDefEqProofs (disch := omega) only [e_X12_tries, e_X12_tries__1, e_X12_tries__2, e_X12_tries__3, e_X12_tries__4, e_X12_tries__5, e_X12_tries__6, c2, j2, wx_bd, wx_let, wx_st, wx_lit, wx_ga, wx_sa, pk_mul, nI_add, wx_le, wx_lt, wx_eq, wx_en, wx_ne', wx_nn, wx_ltn, wx_len, wx_nlt, wx_nle, wx_bz0, wx_bz1, if_pos, if_neg, wx_ite, Nat.reduceEqDiff, eq_self, if_true, if_false, not_true_eq_false, not_false_eq_true], h⟩
    · obtain ⟨z, z1, t1, t2⟩ := wl_canTry hX hc hj
      rcases (show z = 0 ∨ z = 1 by omega) with rfl | rfl
      · exact ⟨-nI 10000, σ, τ, by simp -implicitDefEqProofs (disch := omega) only [e_X11_tries, e_X11_tries__1, e_X11_tries__2, e_X11_tries__3, e_X11_tries__4, t1, wx_bd, wx_let, wx_st, wx_lit, wx_ga, wx_sa, pk_mul, nI_add, wx_le, wx_lt, wx_eq, wx_en, wx_ne', wx_nn, wx_ltn, wx_len, wx_nlt, wx_nle, wx_bz0, wx_bz1, if_pos, if_neg, wx_ite, Nat.reduceEqDiff, eq_self, if_true, if_false, not_true_eq_false, not_false_eq_true], by simp -implicitDefEqProofs (disch := omega) only [e_X12_tries, e_X12_tries__1, e_X12_tries__2, e_X12_tries__3, e_X12_tries__4, e_X12_tries__5, e_X12_tries__6, c2, j2, t2, wx_bd, wx_let, wx_st, wx_lit, wx_ga, wx_sa, pk_mul, nI_add, wx_le, wx_lt, wx_eq, wx_en, wx_ne', wx_nn, wx_ltn, wx_len, wx_nlt, wx_nle, wx_bz0, wx_bz1, if_pos, if_neg, wx_ite, Nat.reduceEqDiff, eq_self, if_true, if_false, not_true_eq_false, not_false_eq_true], h⟩
      · obtain ⟨n, nx, hQ⟩ := wP_Q hP
        obtain ⟨s1, u1, cN, rN, r1, r2, X1, Q1, f1, f2, f3, rfl, rfl⟩ := wl_rem hX hY hQ
        obtain ⟨v, s2, u2, v1, v2, v3, X2, F2⟩ := wl_try X1 hc hj
        refine ⟨v, s2, u2, ?_, ?_, ?_⟩
        · simp -implicitDefEqProofs (disch := omega) only [e_X11_tries, e_X11_tries__1, e_X11_tries__2, e_X11_tries__3, e_X11_tries__4, t1, r1, v1, v3, wx_bd, wx_let, wx_st, wx_lit, wx_ga, wx_sa, pk_mul, nI_add, wx_le, wx_lt, wx_eq, wx_en, wx_ne', wx_nn, wx_ltn, wx_len, wx_nlt, wx_nle, wx_bz0, wx_bz1, if_pos, if_neg, wx_ite, Nat.reduceEqDiff, eq_self, if_true, if_false, not_true_eq_false, not_false_eq_true]
        · simp -implicitDefEqProofs (disch := omega) only [e_X12_tries, e_X12_tries__1, e_X12_tries__2, e_X12_tries__3, e_X12_tries__4, e_X12_tries__5, e_X12_tries__6, c2, j2, t2, r2, v2, wx_bd, wx_let, wx_st, wx_lit, wx_ga, wx_sa, pk_mul, nI_add, wx_le, wx_lt, wx_eq, wx_en, wx_ne', wx_nn, wx_ltn, wx_len, wx_nlt, wx_nle, wx_bz0, wx_bz1, if_pos, if_neg, wx_ite, Nat.reduceEqDiff, eq_self, if_true, if_false, not_true_eq_false, not_false_eq_true]
        · refine wR_mk X2 (wY_fr ?_ hY) (wQ_P (wQ_fr ⟨n1, n2, n3⟩ (wFr_q F2) Q1)) hI hD (wFk_tr (wFk_r f1 f2 f3) (wFk_q (wFr_q F2)))
          rw [F2.2.2, f3 1 (by omega) (by omega)]
set_option maxHeartbeats 1000000 in
theorem wh_n_0 {p : Nat → Bool} : ∀ {k : Nat}, (∀ i, i < k → p i = false) → wh_n p k = 0
  | 0, _ => rfl
  | k + 1, h => by
    have := wh_n_0 (p := p) (k := k) (fun i hi => h i (by omega))
    simp [wh_n, this, h k (by omega)]
set_option maxHeartbeats 1000000 in
theorem ws_act : wp_act wR := by
  intro σ τ a0 a1 a2 h
  have h := wR_told (nI 0) h
  simp only [e_X12_act, wx_st, wx_lit]
  generalize wg_u τ 0 0 (nI 0) = τ at h ⊢
  obtain ⟨nw, nj, nc, hX, hY, hP, hI, hD⟩ := wR_X h
  obtain ⟨n1, n2, n3, n4, n5, n6⟩ := id hX.1
  rcases wk_wig (wb_nw hX.2.1) n4 n1 a1 with ⟨c1, c2⟩ | ⟨w, hw, rfl, c1, c2⟩
  · refine ⟨nI 0, σ, τ, by simp -implicitDefEqProofs (disch := omega) only [e_X11_act, e_X11_act__1, e_X11_act__2, e_X11_act__3, e_X1_canDo, e_X1_canDo__1, c1, wx_bd, wx_let, wx_st, wx_lit, wx_ga, wx_sa, pk_mul, nI_add, wx_le, wx_lt, wx_eq, wx_en, wx_ne', wx_nn, wx_ltn, wx_len, wx_nlt, wx_nle, wx_bz0, wx_bz1, if_pos, if_neg, wx_ite, Nat.reduceEqDiff, eq_self, if_true, if_false, not_true_eq_false, not_false_eq_true], ?_, h⟩
    rcases wk_in a0 0 3 (by omega) (by omega) with ⟨-, i2⟩ | ⟨k, -, -, rfl, -, i2⟩
    · simp -implicitDefEqProofs (disch := omega) only [e_X12_act, e_X12_act__1, e_X12_act__2, e_X12_act__3, e_X12_act__4, e_X12_act__5, e_X12_act__6, e_X12_act__7, i2, wx_bd, wx_let, wx_st, wx_lit, wx_ga, wx_sa, pk_mul, nI_add, wx_le, wx_lt, wx_eq, wx_en, wx_ne', wx_nn, wx_ltn, wx_len, wx_nlt, wx_nle, wx_bz0, wx_bz1, if_pos, if_neg, wx_ite, Nat.reduceEqDiff, eq_self, if_true, if_false, not_true_eq_false, not_false_eq_true]
    · simp -implicitDefEqProofs (disch := omega) only [e_X12_act, e_X12_act__1, e_X12_act__2, e_X12_act__3, e_X12_act__4, e_X12_act__5, e_X12_act__6, e_X12_act__7, i2, c2, wx_bd, wx_let, wx_st, wx_lit, wx_ga, wx_sa, pk_mul, nI_add, wx_le, wx_lt, wx_eq, wx_en, wx_ne', wx_nn, wx_ltn, wx_len, wx_nlt, wx_nle, wx_bz0, wx_bz1, if_pos, if_neg, wx_ite, Nat.reduceEqDiff, eq_self, if_true, if_false, not_true_eq_false, not_false_eq_true]
  · rcases wx_cs a0 4 with ⟨k, hk, rfl⟩ | hout
    · have i2 : ∀ t, f_X12_isIn 0 (nI k) (nI 0) (nI 3) t = some (nI 1, t) := fun t => by simp -implicitDefEqProofs (disch := omega) only [e_X12_isIn, wx_bd, wx_let, wx_st, wx_lit, wx_ga, wx_sa, pk_mul, nI_add, wx_le, wx_lt, wx_eq, wx_en, wx_ne', wx_nn, wx_ltn, wx_len, wx_nlt, wx_nle, wx_bz0, wx_bz1, if_pos, if_neg, wx_ite, Nat.reduceEqDiff, eq_self, if_true, if_false, not_true_eq_false, not_false_eq_true]
      have key : (f_X1_canDo 279 (nI k) (nI w) a2 σ = some (nI 0, σ) ∧ f_X12_isWorth 0 (nI k) a2 τ = some (nI 0, τ)) ∨ (wDo nj k a2 ∧ f_X12_isWorth 0 (nI k) a2 τ = some (nI 1, τ)) := by
        rcases (show k = 0 ∨ k = 1 ∨ k = 2 ∨ k = 3 by omega) with rfl | rfl | rfl | rfl
        · rcases wk_jdg (wb_nj hX.2.1) n5 n2 a2 with ⟨j1, j2⟩ | ⟨j, hj, rfl, j1, j2⟩
          · have hl : f_X2_lives 11 a2 σ = some (nI 0, σ) := by simp -implicitDefEqProofs (disch := omega) only [e_X2_lives, e_X2_lives__1, e_X2_lives__2, j1, wx_bd, wx_let, wx_st, wx_lit, wx_ga, wx_sa, pk_mul, nI_add, wx_le, wx_lt, wx_eq, wx_en, wx_ne', wx_nn, wx_ltn, wx_len, wx_nlt, wx_nle, wx_bz0, wx_bz1, if_pos, if_neg, wx_ite, Nat.reduceEqDiff, eq_self, if_true, if_false, not_true_eq_false, not_false_eq_true]
            exact Or.inl ⟨by simp -implicitDefEqProofs (disch := omega) only [e_X1_canDo, e_X1_canDo__1, e_X1_canDo__2, e_X1_canDo__3, e_X1_canDo__4, e_X1_canDo__5, e_X1_canDo__6, c1, wx_swk0, wx_swk1, wx_swk2, wx_swk3, wx_swk4, wx_swk5, wx_swk6, wx_swk7, hl, wx_bd, wx_let, wx_st, wx_lit, wx_ga, wx_sa, pk_mul, nI_add, wx_le, wx_lt, wx_eq, wx_en, wx_ne', wx_nn, wx_ltn, wx_len, wx_nlt, wx_nle, wx_bz0, wx_bz1, if_pos, if_neg, wx_ite, Nat.reduceEqDiff, eq_self, if_true, if_false, not_true_eq_false, not_false_eq_true], by simp -implicitDefEqProofs (disch := omega) only [e_X12_isWorth, e_X12_isWorth__1, e_X12_isWorth__2, e_X12_isWorth__3, j2, wx_bd, wx_let, wx_st, wx_lit, wx_ga, wx_sa, pk_mul, nI_add, wx_le, wx_lt, wx_eq, wx_en, wx_ne', wx_nn, wx_ltn, wx_len, wx_nlt, wx_nle, wx_bz0, wx_bz1, if_pos, if_neg, wx_ite, Nat.reduceEqDiff, eq_self, if_true, if_false, not_true_eq_false, not_false_eq_true]⟩
          · exact Or.inr ⟨Or.inl ⟨rfl, j, hj, rfl⟩, by simp -implicitDefEqProofs (disch := omega) only [e_X12_isWorth, e_X12_isWorth__1, e_X12_isWorth__2, e_X12_isWorth__3, j2, wx_bd, wx_let, wx_st, wx_lit, wx_ga, wx_sa, pk_mul, nI_add, wx_le, wx_lt, wx_eq, wx_en, wx_ne', wx_nn, wx_ltn, wx_len, wx_nlt, wx_nle, wx_bz0, wx_bz1, if_pos, if_neg, wx_ite, Nat.reduceEqDiff, eq_self, if_true, if_false, not_true_eq_false, not_false_eq_true]⟩
        · exact Or.inr ⟨Or.inr (Or.inl rfl), by simp -implicitDefEqProofs (disch := omega) only [e_X12_isWorth, e_X12_isWorth__1, e_X12_isWorth__2, e_X12_isWorth__3, e_X12_isWorth_40, wx_bd, wx_let, wx_st, wx_lit, wx_ga, wx_sa, pk_mul, nI_add, wx_le, wx_lt, wx_eq, wx_en, wx_ne', wx_nn, wx_ltn, wx_len, wx_nlt, wx_nle, wx_bz0, wx_bz1, if_pos, if_neg, wx_ite, Nat.reduceEqDiff, eq_self, if_true, if_false, not_true_eq_false, not_false_eq_true]⟩
        · rcases wk_in a2 0 7 (by omega) (by omega) with ⟨-, q2⟩ | ⟨g, -, g1, rfl, -, q2⟩
          · refine Or.inl ⟨?_, by simp -implicitDefEqProofs (disch := omega) only [e_X12_isWorth, e_X12_isWorth__1, e_X12_isWorth__2, e_X12_isWorth__3, q2, wx_bd, wx_let, wx_st, wx_lit, wx_ga, wx_sa, pk_mul, nI_add, wx_le, wx_lt, wx_eq, wx_en, wx_ne', wx_nn, wx_ltn, wx_len, wx_nlt, wx_nle, wx_bz0, wx_bz1, if_pos, if_neg, wx_ite, Nat.reduceEqDiff, eq_self, if_true, if_false, not_true_eq_false, not_false_eq_true]⟩
            obtain ⟨kk, k8, hk, hru⟩ := wb_k hX.2.1 hw
            have r1 := wl_knows hX.2.1 hX.1 hw hk k8 a2
            have hz : wh_n (fun i => decide (τ 1 (75 + 24 * w + 3 * i) = a2)) kk = 0 := by
              refine wh_n_0 (fun i hi => ?_)
              obtain ⟨-, -, -, ⟨c, hc, e⟩, -⟩ := hru i hi
              show decide _ = false
              rw [e]
              refine decide_eq_false (fun q => ?_)
              have := q2 τ
              rw [← q] at this
              simp -implicitDefEqProofs (disch := omega) only [e_X12_isIn, wx_bd, wx_let, wx_st, wx_lit, wx_ga, wx_sa, pk_mul, nI_add, wx_le, wx_lt, wx_eq, wx_en, wx_ne', wx_nn, wx_ltn, wx_len, wx_nlt, wx_nle, wx_bz0, wx_bz1, if_pos, if_neg, wx_ite, Nat.reduceEqDiff, eq_self, if_true, if_false, not_true_eq_false, not_false_eq_true] at this
              simp at this
              exact absurd this (by decide)
            rw [hz] at r1
            simp only [if_true] at r1
            simp -implicitDefEqProofs (disch := omega) only [e_X1_canDo, e_X1_canDo__1, e_X1_canDo__5, c1, wx_swk2, r1, wx_bd, wx_let, wx_st, wx_lit, wx_ga, wx_sa, pk_mul, nI_add, wx_le, wx_lt, wx_eq, wx_en, wx_ne', wx_nn, wx_ltn, wx_len, wx_nlt, wx_nle, wx_bz0, wx_bz1, if_pos, if_neg, wx_ite, Nat.reduceEqDiff, eq_self, if_true, if_false, not_true_eq_false, not_false_eq_true]
          · exact Or.inr ⟨Or.inr (Or.inr (Or.inl rfl)), by simp -implicitDefEqProofs (disch := omega) only [e_X12_isWorth, e_X12_isWorth__1, e_X12_isWorth__2, e_X12_isWorth__3, q2, wx_bd, wx_let, wx_st, wx_lit, wx_ga, wx_sa, pk_mul, nI_add, wx_le, wx_lt, wx_eq, wx_en, wx_ne', wx_nn, wx_ltn, wx_len, wx_nlt, wx_nle, wx_bz0, wx_bz1, if_pos, if_neg, wx_ite, Nat.reduceEqDiff, eq_self, if_true, if_false, not_true_eq_false, not_false_eq_true]⟩
        · rcases wk_in a2 1 99 (by omega) (by omega) with ⟨q1, q2⟩ | ⟨g, g0, g1, rfl, -, q2⟩
          · exact Or.inl ⟨by simp -implicitDefEqProofs (disch := omega) only [e_X1_canDo, e_X1_canDo__1, e_X1_canDo__6, c1, wx_swk3, q1, wx_bd, wx_let, wx_st, wx_lit, wx_ga, wx_sa, pk_mul, nI_add, wx_le, wx_lt, wx_eq, wx_en, wx_ne', wx_nn, wx_ltn, wx_len, wx_nlt, wx_nle, wx_bz0, wx_bz1, if_pos, if_neg, wx_ite, Nat.reduceEqDiff, eq_self, if_true, if_false, not_true_eq_false, not_false_eq_true], by simp -implicitDefEqProofs (disch := omega) only [e_X12_isWorth, e_X12_isWorth__1, e_X12_isWorth__2, e_X12_isWorth__3, q2, wx_bd, wx_let, wx_st, wx_lit, wx_ga, wx_sa, pk_mul, nI_add, wx_le, wx_lt, wx_eq, wx_en, wx_ne', wx_nn, wx_ltn, wx_len, wx_nlt, wx_nle, wx_bz0, wx_bz1, if_pos, if_neg, wx_ite, Nat.reduceEqDiff, eq_self, if_true, if_false, not_true_eq_false, not_false_eq_true]⟩
          · exact Or.inr ⟨Or.inr (Or.inr (Or.inr ⟨rfl, g, g0, g1, rfl⟩)), by simp -implicitDefEqProofs (disch := omega) only [e_X12_isWorth, e_X12_isWorth__1, e_X12_isWorth__2, e_X12_isWorth__3, e_X12_isWorth_40, q2, wx_bd, wx_let, wx_st, wx_lit, wx_ga, wx_sa, pk_mul, nI_add, wx_le, wx_lt, wx_eq, wx_en, wx_ne', wx_nn, wx_ltn, wx_len, wx_nlt, wx_nle, wx_bz0, wx_bz1, if_pos, if_neg, wx_ite, Nat.reduceEqDiff, eq_self, if_true, if_false, not_true_eq_false, not_false_eq_true]⟩
      rcases key with ⟨k1, k2⟩ | ⟨hd, k2⟩
      · exact ⟨nI 0, σ, τ, by simp -implicitDefEqProofs (disch := omega) only [e_X11_act, e_X11_act__1, e_X11_act__2, e_X11_act__3, k1, wx_bd, wx_let, wx_st, wx_lit, wx_ga, wx_sa, pk_mul, nI_add, wx_le, wx_lt, wx_eq, wx_en, wx_ne', wx_nn, wx_ltn, wx_len, wx_nlt, wx_nle, wx_bz0, wx_bz1, if_pos, if_neg, wx_ite, Nat.reduceEqDiff, eq_self, if_true, if_false, not_true_eq_false, not_false_eq_true], by simp -implicitDefEqProofs (disch := omega) only [e_X12_act, e_X12_act__1, e_X12_act__2, e_X12_act__3, e_X12_act__4, e_X12_act__5, e_X12_act__6, e_X12_act__7, i2, c2, k2, wx_bd, wx_let, wx_st, wx_lit, wx_ga, wx_sa, pk_mul, nI_add, wx_le, wx_lt, wx_eq, wx_en, wx_ne', wx_nn, wx_ltn, wx_len, wx_nlt, wx_nle, wx_bz0, wx_bz1, if_pos, if_neg, wx_ite, Nat.reduceEqDiff, eq_self, if_true, if_false, not_true_eq_false, not_false_eq_true], h⟩
      · obtain ⟨z, z1, t1, t2, t3⟩ := wl_can hX hw hd
        rcases (show z = 0 ∨ z = 1 by omega) with rfl | rfl
        · exact ⟨nI 0, σ, τ, by simp -implicitDefEqProofs (disch := omega) only [e_X11_act, e_X11_act__1, e_X11_act__2, e_X11_act__3, t1, wx_bd, wx_let, wx_st, wx_lit, wx_ga, wx_sa, pk_mul, nI_add, wx_le, wx_lt, wx_eq, wx_en, wx_ne', wx_nn, wx_ltn, wx_len, wx_nlt, wx_nle, wx_bz0, wx_bz1, if_pos, if_neg, wx_ite, Nat.reduceEqDiff, eq_self, if_true, if_false, not_true_eq_false, not_false_eq_true], by simp -implicitDefEqProofs (disch := omega) only [e_X12_act, e_X12_act__1, e_X12_act__2, e_X12_act__3, e_X12_act__4, e_X12_act__5, e_X12_act__6, e_X12_act__7, i2, c2, k2, t2, wx_bd, wx_let, wx_st, wx_lit, wx_ga, wx_sa, pk_mul, nI_add, wx_le, wx_lt, wx_eq, wx_en, wx_ne', wx_nn, wx_ltn, wx_len, wx_nlt, wx_nle, wx_bz0, wx_bz1, if_pos, if_neg, wx_ite, Nat.reduceEqDiff, eq_self, if_true, if_false, not_true_eq_false, not_false_eq_true], h⟩
        · obtain ⟨n, nx, hQ⟩ := wP_Q hP
          obtain ⟨s1, u1, cN, rN, r1, r2, X1, Q1, f1, f2, f3, rfl, rfl⟩ := wl_rem hX hY hQ
          obtain ⟨s2, u2, v1, v2, X2, F2⟩ := wl_do X1 hw hd (fun e => by rw [f3 1 (by omega) (by omega)]; exact t3 e rfl)
          refine ⟨nI 1, s2, u2, ?_, ?_, ?_⟩
          · simp -implicitDefEqProofs (disch := omega) only [e_X11_act, e_X11_act__1, e_X11_act__2, e_X11_act__3, t1, r1, v1, wx_bd, wx_let, wx_st, wx_lit, wx_ga, wx_sa, pk_mul, nI_add, wx_le, wx_lt, wx_eq, wx_en, wx_ne', wx_nn, wx_ltn, wx_len, wx_nlt, wx_nle, wx_bz0, wx_bz1, if_pos, if_neg, wx_ite, Nat.reduceEqDiff, eq_self, if_true, if_false, not_true_eq_false, not_false_eq_true]
          · simp -implicitDefEqProofs (disch := omega) only [e_X12_act, e_X12_act__1, e_X12_act__2, e_X12_act__3, e_X12_act__4, e_X12_act__5, e_X12_act__6, e_X12_act__7, i2, c2, k2, t2, r2, v2, wx_bd, wx_let, wx_st, wx_lit, wx_ga, wx_sa, pk_mul, nI_add, wx_le, wx_lt, wx_eq, wx_en, wx_ne', wx_nn, wx_ltn, wx_len, wx_nlt, wx_nle, wx_bz0, wx_bz1, if_pos, if_neg, wx_ite, Nat.reduceEqDiff, eq_self, if_true, if_false, not_true_eq_false, not_false_eq_true]
          · refine wR_mk X2 (wY_fr ?_ hY) (wQ_P (wQ_fr ⟨n1, n2, n3⟩ (wFr_q F2) Q1)) hI hD (wFk_tr (wFk_r f1 f2 f3) (wFk_q (wFr_q F2)))
            rw [F2.2.2, f3 1 (by omega) (by omega)]
    · have hz : f_X1_canDo 279 a0 (nI w) a2 σ = some (nI 0, σ) := by
        simp -implicitDefEqProofs (disch := omega) only [e_X1_canDo, e_X1_canDo__1, c1, wx_bd, wx_let, wx_st, wx_lit, wx_ga, wx_sa, pk_mul, nI_add, wx_le, wx_lt, wx_eq, wx_en, wx_ne', wx_nn, wx_ltn, wx_len, wx_nlt, wx_nle, wx_bz0, wx_bz1, if_pos, if_neg, wx_ite, Nat.reduceEqDiff, eq_self, if_true, if_false, not_true_eq_false, not_false_eq_true]
        rw [wx_sw_out (fun k hk => hout k (by simpa using hk)) (by simp)]
      refine ⟨nI 0, σ, τ, by simp -implicitDefEqProofs (disch := omega) only [e_X11_act, e_X11_act__1, e_X11_act__2, e_X11_act__3, hz, wx_bd, wx_let, wx_st, wx_lit, wx_ga, wx_sa, pk_mul, nI_add, wx_le, wx_lt, wx_eq, wx_en, wx_ne', wx_nn, wx_ltn, wx_len, wx_nlt, wx_nle, wx_bz0, wx_bz1, if_pos, if_neg, wx_ite, Nat.reduceEqDiff, eq_self, if_true, if_false, not_true_eq_false, not_false_eq_true], ?_, h⟩
      rcases wk_in a0 0 3 (by omega) (by omega) with ⟨-, i2⟩ | ⟨k, -, k3, e, -, i2⟩
      · simp -implicitDefEqProofs (disch := omega) only [e_X12_act, e_X12_act__1, e_X12_act__2, e_X12_act__3, e_X12_act__4, e_X12_act__5, e_X12_act__6, e_X12_act__7, i2, wx_bd, wx_let, wx_st, wx_lit, wx_ga, wx_sa, pk_mul, nI_add, wx_le, wx_lt, wx_eq, wx_en, wx_ne', wx_nn, wx_ltn, wx_len, wx_nlt, wx_nle, wx_bz0, wx_bz1, if_pos, if_neg, wx_ite, Nat.reduceEqDiff, eq_self, if_true, if_false, not_true_eq_false, not_false_eq_true]
      · exact absurd e (hout k (by omega))

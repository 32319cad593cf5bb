set_option maxHeartbeats 1000000 in
theorem wl_begin {nw nj nc : Nat} {σ τ : wg_M} (h : wX false nw nj nc σ τ) : ∃ σ' τ', f_X1_beginThought 279 σ = some (nI 0, σ') ∧ f_X12_thinks 0 τ = some (nI 0, τ') ∧ wX true nw nj nc σ' τ' ∧ wB nw nj nc σ' 118 (τ' 3) τ' ∧ (∀ j, j < 295 → τ' 3 j = τ 1 j) ∧ (∀ a, a < 118 ∨ 138 ≤ a → a ≠ 279 → σ' a = σ a) ∧ (∀ a, a ≠ 0 → a ≠ 3 → τ' a = τ a) ∧ ∀ i, i ≠ 5 → τ' 0 i = τ 0 i := by
  obtain ⟨x1, x2, x3, x4, x5⟩ := h
  have n123 : nw ≤ 8 ∧ nj ≤ 10 ∧ nc ≤ 14 := ⟨x1.1, x1.2.1, x1.2.2.1⟩
  have cp := wl_copyB (s := 1) (b := 118) (σ := σ) wShp_1 wShp_118 (Or.inl (by omega))
  have b1 := wcB_B (b := 118) n123 (Or.inl (by omega)) x2
  obtain ⟨S, hS⟩ : ∃ S, S = wcB 1 118 σ := ⟨_, rfl⟩
  rw [← hS] at cp b1
  have Su : ∀ q, q < 118 ∨ 138 ≤ q → S q = σ q := fun q hq => by rw [hS]; exact wcB_un (by omega)
  obtain ⟨T, k1, k2, k3, k4⟩ := wl_thk 295 0 wg_N τ (by omega) (by rw [wx_N]; omega)
  have T0 : ∀ i, i ≠ 5 → wg_u T 0 5 (nI 1) 0 i = τ 0 i := fun i hi => by rw [wx_uk, pk_un hi, k2 0 (by omega)]
  have Ta : ∀ a, a ≠ 0 → a ≠ 3 → wg_u T 0 5 (nI 1) a = τ a := fun a h0 h3 => by rw [wx_un h0, k2 a h3]
  refine ⟨wg_u S 279 6 (nI 1), wg_u T 0 5 (nI 1), ?_, k1, ⟨wN_fr (T0 6 (by omega)) (T0 7 (by omega)) (T0 8 (by omega)) x1, ?_, ?_, ?_, ?_, ?_⟩, ?_, fun j hj => by rw [wx_un (by omega)]; exact k4 j (by omega) hj, fun a q1 q2 => by rw [wx_un q2]; exact Su a q1, Ta, T0⟩
  · simp -implicitDefEqProofs (disch := omega) only [e_X1_beginThought, e_X1_beginThought__1, e_X1_beginThought__2, cp, wx_bd, wx_let, wx_st, wx_lit, wx_ga, wx_sa, pk_mul, nI_add, wx_le, wx_lt, wx_eq, wx_en, wx_ne', wx_nn, wx_ltn, wx_len, wx_nlt, wx_nle, wx_bz0, wx_bz1, if_pos, if_neg, wx_ite, Nat.reduceEqDiff, eq_self, if_true, if_false, not_true_eq_false, not_false_eq_true]
  · exact wB_fr n123 (fun a q1 q2 => by rw [wx_un (by omega)]; exact Su a (by omega)) (fun i _ => by rw [Ta 1 (by omega) (by omega)]) (fun i _ => by rw [Ta 4 (by omega) (by omega)]) (fun i _ => by rw [Ta 5 (by omega) (by omega)]) (fun i _ => by rw [Ta 6 (by omega) (by omega)]) (fun i _ => by rw [Ta 7 (by omega) (by omega)]) x2
  · exact wPg_fr (fun a q1 q2 => by rw [wx_un (by omega)]; exact Su a (by omega)) (fun i _ => by rw [Ta 8 (by omega) (by omega)]) x3
  · refine wRt_fr (fun a q1 q2 q3 q4 => by rw [wx_un (by omega)]; exact Su a (by omega)) (fun a i q q1 _ _ _ _ _ q0 => ?_) x4
    by_cases ca : a = 0
    · subst ca
      exact T0 i (by have := q0 rfl; omega)
    · rw [Ta a ca (fun e => by subst e; simp [wLv] at q)]
  · simp -implicitDefEqProofs (disch := omega) only [wx_uk, wx_un, pk_us, pk_un, if_true]
  · simp -implicitDefEqProofs (disch := omega) only [wx_uk, wx_un, pk_us, pk_un, if_true]
  · exact wB_fr n123 (fun a q1 q2 => by rw [wx_un (by omega)]) (fun i hi => by rw [wx_un (by omega)]; exact k4 i (by omega) hi) (fun i _ => by rw [Ta 4 (by omega) (by omega)]) (fun i _ => by rw [Ta 5 (by omega) (by omega)]) (fun i _ => by rw [Ta 6 (by omega) (by omega)]) (fun i _ => by rw [Ta 7 (by omega) (by omega)]) b1
set_option maxHeartbeats 1000000 in
/-- a thought ends: all is as it was -/
theorem wl_endT {nw nj nc : Nat} {σ τ σ2 τ2 : wg_M} (_h : wX false nw nj nc σ τ) (X2 : wX true nw nj nc σ2 τ2) (b1 : wB nw nj nc σ2 118 (τ2 3) τ2) (t3 : ∀ j, j < 295 → τ2 3 j = τ 1 j) (f1 : ∀ a, 25 < a → a < 118 ∨ 138 ≤ a → a ≠ 32 → a ≠ 33 → a ≠ 279 → σ2 a = σ a) (f2 : ∀ a, a ≠ 0 → a ≠ 1 → a ≠ 3 → a ≠ 8 → a ≠ 22 → a ≠ 23 → τ2 a = τ a) (f3 : ∀ i, i ≠ 5 → τ2 0 i = τ 0 i) (hY : wY (τ 1)) (hP : wP nw nj nc σ τ) (hI : wIm σ τ) (hD : wRd σ τ) : ∃ σ' τ', f_X1_endThought 279 σ2 = some (nI 0, σ') ∧ f_X12_endsThought 0 τ2 = some (nI 0, τ') ∧ wR σ' τ' := by
  obtain ⟨x1, x2, x3, x4, x5⟩ := X2
  have n123 : nw ≤ 8 ∧ nj ≤ 10 ∧ nc ≤ 14 := ⟨x1.1, x1.2.1, x1.2.2.1⟩
  have cp := wl_copyB (s := 118) (b := 1) (σ := σ2) wShp_118 wShp_1 (Or.inr (by omega))
  have b2 := wcB_B (b := 1) n123 (Or.inr (by omega)) b1
  obtain ⟨S, hS⟩ : ∃ S, S = wcB 118 1 σ2 := ⟨_, rfl⟩
  rw [← hS] at cp b2
  have Su : ∀ q, q < 1 ∨ 21 ≤ q → S q = σ2 q := fun q hq => by rw [hS]; exact wcB_un (by omega)
  obtain ⟨T, k1, k2, k3, k4⟩ := wl_ends 295 0 wg_N τ2 (by omega) (by rw [wx_N]; omega)
  have T0 : ∀ i, i ≠ 5 → wg_u T 0 5 (nI 0) 0 i = τ2 0 i := fun i hi => by rw [wx_uk, pk_un hi, k2 0 (by omega)]
  have Ta : ∀ a, a ≠ 0 → a ≠ 1 → wg_u T 0 5 (nI 0) a = τ2 a := fun a h0 h1 => by rw [wx_un h0, k2 a h1]
  have T1 : ∀ j, j < 295 → wg_u T 0 5 (nI 0) 1 j = τ2 3 j := fun j hj => by rw [wx_un (by omega)]; exact k4 j (by omega) hj
  have Sx : ∀ a, 25 < a → a < 118 ∨ 138 ≤ a → a ≠ 32 → a ≠ 33 → a ≠ 279 → wg_u S 279 6 (nI 0) a = σ a := fun a q1 q2 q3 q4 q5 => by rw [wx_un q5, Su a (by omega)]; exact f1 a q1 q2 q3 q4 q5
  have Tx : ∀ a, a ≠ 0 → a ≠ 1 → a ≠ 3 → a ≠ 8 → a ≠ 22 → a ≠ 23 → wg_u T 0 5 (nI 0) a = τ a := fun a q0 q1 q2 q3 q4 q5 => by rw [Ta a q0 q1]; exact f2 a q0 q1 q2 q3 q4 q5
  have Tz : ∀ i, i ≠ 5 → wg_u T 0 5 (nI 0) 0 i = τ 0 i := fun i hi => by rw [T0 i hi]; exact f3 i hi
  refine ⟨wg_u S 279 6 (nI 0), wg_u T 0 5 (nI 0), ?_, k1, nw, nj, nc, ⟨wN_fr (T0 6 (by omega)) (T0 7 (by omega)) (T0 8 (by omega)) x1, ?_, ?_, ?_, ?_⟩, ?_, ?_, ?_, ?_, ?_⟩
  · simp -implicitDefEqProofs (disch := omega) only [e_X1_endThought, e_X1_endThought__1, e_X1_endThought__2, cp, wx_bd, wx_let, wx_st, wx_lit, wx_ga, wx_sa, pk_mul, nI_add, wx_le, wx_lt, wx_eq, wx_en, wx_ne', wx_nn, wx_ltn, wx_len, wx_nlt, wx_nle, wx_bz0, wx_bz1, if_pos, if_neg, wx_ite, Nat.reduceEqDiff, eq_self, if_true, if_false, not_true_eq_false, not_false_eq_true]
  · exact wB_fr n123 (fun a q1 q2 => by rw [wx_un (by omega)]) (fun i hi => T1 i hi) (fun i _ => by rw [Ta 4 (by omega) (by omega)]) (fun i _ => by rw [Ta 5 (by omega) (by omega)]) (fun i _ => by rw [Ta 6 (by omega) (by omega)]) (fun i _ => by rw [Ta 7 (by omega) (by omega)]) b2
  · exact wY_fr (by rw [T1 0 (by omega)]; exact t3 0 (by omega)) hY
  · exact wPg_fr (fun a q1 q2 => by rw [wx_un (by omega), Su a (by omega)]) (fun i _ => by rw [Ta 8 (by omega) (by omega)]) x3
  · refine wRt_fr (fun a q1 q2 q3 q4 => by rw [wx_un (by omega), Su a (by omega)]) (fun a i q q1 _ _ _ _ _ q0 => ?_) x4
    by_cases ca : a = 0
    · subst ca
      exact T0 i (by have := q0 rfl; omega)
    · rw [Ta a ca q1]
  · exact wP_fr n123 (by rw [Sx 258 (by omega) (by omega) (by omega) (by omega) (by omega)]) (by rw [Sx 258 (by omega) (by omega) (by omega) (by omega) (by omega)]) (fun a q1 q2 => Sx a (by omega) (by omega) (by omega) (by omega) (by omega)) (Tz 3 (by omega)) (fun i _ => by rw [Tx 2 (by omega) (by omega) (by omega) (by omega) (by omega) (by omega)]) (fun i _ => by rw [Tx 4 (by omega) (by omega) (by omega) (by omega) (by omega) (by omega)]) (fun i _ => by rw [Tx 5 (by omega) (by omega) (by omega) (by omega) (by omega) (by omega)]) (fun i _ => by rw [Tx 6 (by omega) (by omega) (by omega) (by omega) (by omega) (by omega)]) (fun i _ => by rw [Tx 7 (by omega) (by omega) (by omega) (by omega) (by omega) (by omega)]) hP
  · exact wIm_fr (by rw [Sx 281 (by omega) (by omega) (by omega) (by omega) (by omega)]) (fun a q1 q2 _ _ _ => Sx a (by omega) (by omega) (by omega) (by omega) (by omega)) (Tz 58 (by omega)) (Tx 33 (by omega) (by omega) (by omega) (by omega) (by omega) (by omega)) hI
  · exact wRd_fr (by rw [Sx 260 (by omega) (by omega) (by omega) (by omega) (by omega)]) (by rw [Sx 260 (by omega) (by omega) (by omega) (by omega) (by omega)]) (by rw [Sx 260 (by omega) (by omega) (by omega) (by omega) (by omega)]) (Sx 261 (by omega) (by omega) (by omega) (by omega) (by omega)) (Tz 15 (by omega)) (Tz 35 (by omega)) (Tz 36 (by omega)) (Tx 9 (by omega) (by omega) (by omega) (by omega) (by omega) (by omega)) (Tx 10 (by omega) (by omega) (by omega) (by omega) (by omega) (by omega)) hD
  · simp -implicitDefEqProofs (disch := omega) only [wx_uk, wx_un, pk_us, pk_un]
  · simp -implicitDefEqProofs (disch := omega) only [wx_uk, wx_un, pk_us, pk_un]
set_option maxHeartbeats 1000000 in
theorem ws_goes : wp_goes wR := by
  intro σ τ a0 a1 h
  have h := wR_told (nI 0) h
  simp only [e_X12_goes, wx_st, wx_lit]
  generalize wg_u τ 0 0 (nI 0) = τ at h ⊢
  obtain ⟨nw, nj, nc, hX, hY, hP, hI, hD⟩ := wR_X h
  rcases wk_in a0 1 60 (by omega) (by omega) with ⟨i1, i2⟩ | ⟨N, N1, N2, rfl, i1, i2⟩
  · exact ⟨-nI 1, σ, τ, by simp -implicitDefEqProofs (disch := omega) only [e_X11_goes, e_X11_goes__1, e_X11_goes__2, e_X11_goes__3, i1, wx_bd, wx_let, wx_st, wx_lit, wx_ga, wx_sa, pk_mul, nI_add, wx_le, wx_lt, wx_eq, wx_en, wx_ne', wx_nn, wx_ltn, wx_len, wx_nlt, wx_nle, wx_bz0, wx_bz1, if_pos, if_neg, wx_ite, Nat.reduceEqDiff, eq_self, if_true, if_false, not_true_eq_false, not_false_eq_true], by simp -implicitDefEqProofs (disch := omega) only [e_X12_goes, e_X12_goes__1, e_X12_goes__2, e_X12_goes__3, e_X12_goes__4, i2, wx_bd, wx_let, wx_st, wx_lit, wx_ga, wx_sa, pk_mul, nI_add, wx_le, wx_lt, wx_eq, wx_en, wx_ne', wx_nn, wx_ltn, wx_len, wx_nlt, wx_nle, wx_bz0, wx_bz1, if_pos, if_neg, wx_ite, Nat.reduceEqDiff, eq_self, if_true, if_false, not_true_eq_false, not_false_eq_true], h⟩
  · rcases wk_in a1 0 3 (by omega) (by omega) with ⟨j1, j2⟩ | ⟨k, -, k3, rfl, j1, j2⟩
    · exact ⟨-nI 1, σ, τ, by simp -implicitDefEqProofs (disch := omega) only [e_X11_goes, e_X11_goes__1, e_X11_goes__2, e_X11_goes__3, i1, j1, wx_bd, wx_let, wx_st, wx_lit, wx_ga, wx_sa, pk_mul, nI_add, wx_le, wx_lt, wx_eq, wx_en, wx_ne', wx_nn, wx_ltn, wx_len, wx_nlt, wx_nle, wx_bz0, wx_bz1, if_pos, if_neg, wx_ite, Nat.reduceEqDiff, eq_self, if_true, if_false, not_true_eq_false, not_false_eq_true], by simp -implicitDefEqProofs (disch := omega) only [e_X12_goes, e_X12_goes__1, e_X12_goes__2, e_X12_goes__3, e_X12_goes__4, i2, j2, wx_bd, wx_let, wx_st, wx_lit, wx_ga, wx_sa, pk_mul, nI_add, wx_le, wx_lt, wx_eq, wx_en, wx_ne', wx_nn, wx_ltn, wx_len, wx_nlt, wx_nle, wx_bz0, wx_bz1, if_pos, if_neg, wx_ite, Nat.reduceEqDiff, eq_self, if_true, if_false, not_true_eq_false, not_false_eq_true], h⟩
    · obtain ⟨s1, t1, b1, b2, X1, B1, t3, g1, g2, g3⟩ := wl_begin hX
      obtain ⟨s2, t2, r1, r2, X2, F2⟩ := wl_gthk_l N2 (nI k) N 0 wg_N wg_N s1 t1 (by omega) (by rw [wx_N]; omega) (by rw [wx_N]; omega) X1
      have n123 : nw ≤ 8 ∧ nj ≤ 10 ∧ nc ≤ 14 := ⟨hX.1.1, hX.1.2.1, hX.1.2.2.1⟩
      have e3 : t2 3 = t1 3 := F2.2 3 (by omega) (by omega) (by omega) (by omega)
      have B2 : wB nw nj nc s2 118 (t2 3) t2 := wB_fr n123 (fun a q1 q2 => F2.1 a (by omega) (by omega) (by omega)) (fun i _ => by rw [e3]) (fun i _ => by rw [F2.2 4 (by omega) (by omega) (by omega) (by omega)]) (fun i _ => by rw [F2.2 5 (by omega) (by omega) (by omega) (by omega)]) (fun i _ => by rw [F2.2 6 (by omega) (by omega) (by omega) (by omega)]) (fun i _ => by rw [F2.2 7 (by omega) (by omega) (by omega) (by omega)]) B1
      obtain ⟨s3, t4, u1, u2, u3⟩ := wl_endT hX X2 B2 (fun j hj => by rw [e3]; exact t3 j hj) (fun a q1 q2 q3 q4 q5 => by rw [F2.1 a (by omega) q3 q4, g1 a (by omega) q5]) (fun a q0 q1 q2 q3 q4 q5 => by rw [F2.2 a q1 q3 q4 q5, g2 a q0 q2]) (fun i hi => by rw [F2.2 0 (by omega) (by omega) (by omega) (by omega)]; exact g3 i hi) hY hP hI hD
      have su := wl_sumUp X2.2.1 X2.1 (show k < 4 by omega)
      have sm := wl_g61 X2.2.1 X2.1 (show k < 4 by omega) nw 0 wg_N (by omega) (by rw [wx_N]; omega)
      refine ⟨wSu nw nj nc t2 k, s3, t4, ?_, ?_, u3⟩
      · simp -implicitDefEqProofs (disch := omega) only [e_X11_goes, e_X11_goes__1, e_X11_goes__2, e_X11_goes__3, i1, j1, b1, wx_bd, wx_let, wx_st, wx_lit, wx_ga, wx_sa, pk_mul, nI_add, wx_le, wx_lt, wx_eq, wx_en, wx_ne', wx_nn, wx_ltn, wx_len, wx_nlt, wx_nle, wx_bz0, wx_bz1, if_pos, if_neg, wx_ite, Nat.reduceEqDiff, eq_self, if_true, if_false, not_true_eq_false, not_false_eq_true]
        rw [r1, show (1 : Nat) = 0 + 1 from rfl]
        simp -implicitDefEqProofs (disch := omega) only [e_X11_goes_30, e_X11_goes_30__1, e_X11_goes_30__2, e_X11_goes_30__3, e_X11_goes_30__4, su, u1, wx_bd, wx_let, wx_st, wx_lit, wx_ga, wx_sa, pk_mul, nI_add, wx_le, wx_lt, wx_eq, wx_en, wx_ne', wx_nn, wx_ltn, wx_len, wx_nlt, wx_nle, wx_bz0, wx_bz1, if_pos, if_neg, wx_ite, Nat.reduceEqDiff, eq_self, if_true, if_false, not_true_eq_false, not_false_eq_true]
      · simp -implicitDefEqProofs (disch := omega) only [e_X12_goes, e_X12_goes__1, e_X12_goes__2, e_X12_goes__3, e_X12_goes__4, i2, j2, b2, wx_bd, wx_let, wx_st, wx_lit, wx_ga, wx_sa, pk_mul, nI_add, wx_le, wx_lt, wx_eq, wx_en, wx_ne', wx_nn, wx_ltn, wx_len, wx_nlt, wx_nle, wx_bz0, wx_bz1, if_pos, if_neg, wx_ite, Nat.reduceEqDiff, eq_self, if_true, if_false, not_true_eq_false, not_false_eq_true]
        rw [r2]
        refine Eq.trans sm ?_
        simp -implicitDefEqProofs (disch := omega) only [e_X12_goes_181, e_X12_goes_181__1, u2, wx_bd, wx_let, wx_st, wx_lit, wx_ga, wx_sa, pk_mul, nI_add, wx_le, wx_lt, wx_eq, wx_en, wx_ne', wx_nn, wx_ltn, wx_len, wx_nlt, wx_nle, wx_bz0, wx_bz1, if_pos, if_neg, wx_ite, Nat.reduceEqDiff, eq_self, if_true, if_false, not_true_eq_false, not_false_eq_true]

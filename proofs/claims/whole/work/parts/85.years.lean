/-! years go by; and are undone -/
set_option maxHeartbeats 1000000 in
theorem wl_years {nw nj nc N y : Nat} (hN : N ≤ 60) (hy : y + N ≤ 9999) : ∀ d i n m q mm cN nx rN σ τ, i + d = N → d < n → d < m → q ≤ 10 * i → wX false nw nj nc σ τ → τ 1 0 = nI (y + i) → wQ mm cN nx rN nw nj nc σ τ → ((N ≤ 6 ∧ cN = mm ∧ rN = mm) ∨ (6 < N ∧ mm = i + 6 - N)) → ∃ r σ' τ', f_X11_years_34 n 281 (nI N) (nI q) (nI i) σ = some (r, σ') ∧ f_X12_years_36 m 0 (nI N) (nI q) (nI i) τ = some (r, τ') ∧ wX false nw nj nc σ' τ' ∧ wY (τ' 1) ∧ wP nw nj nc σ' τ' ∧ wFk σ σ' τ τ' := by
  intro d
  induction d with
  | zero =>
    intro i n m q mm cN nx rN σ τ hi hn hm hq hX hY hQ hI
    obtain ⟨n, rfl⟩ : ∃ k, n = k + 1 := ⟨n - 1, by omega⟩
    obtain ⟨m, rfl⟩ : ∃ k, m = k + 1 := ⟨m - 1, by omega⟩
    refine ⟨nI q, σ, τ, ?_, ?_, hX, ⟨y + i, by omega, hY⟩, ?_, wFk_rfl⟩
    · simp -implicitDefEqProofs (disch := omega) only [e_X11_years_34, e_X11_years_34__1, wx_bd, wx_let, wx_st, wx_lit, wx_ga, wx_sa, pk_mul, nI_add, wx_le, wx_lt, wx_eq, wx_en, wx_ne', wx_nn, wx_ltn, wx_len, wx_nlt, wx_nle, wx_bz0, wx_bz1, if_pos, if_neg, wx_ite, Nat.reduceEqDiff, eq_self, if_true, if_false, not_true_eq_false, not_false_eq_true]
    · simp -implicitDefEqProofs (disch := omega) only [e_X12_years_36, e_X12_years_36__1, e_X12_years_36__2, e_X12_years_36__3, e_X12_years_36__4, wx_bd, wx_let, wx_st, wx_lit, wx_ga, wx_sa, pk_mul, nI_add, wx_le, wx_lt, wx_eq, wx_en, wx_ne', wx_nn, wx_ltn, wx_len, wx_nlt, wx_nle, wx_bz0, wx_bz1, if_pos, if_neg, wx_ite, Nat.reduceEqDiff, eq_self, if_true, if_false, not_true_eq_false, not_false_eq_true]
    · obtain ⟨q1, q2, q3, q4, q5, q6, q7, q8, q9⟩ := id hQ
      obtain rfl : cN = mm := by omega
      obtain rfl : rN = cN := by omega
      exact wQ_P hQ
  | succ d ih =>
    intro i n m q mm cN nx rN σ τ hi hn hm hq hX hY hQ hI
    obtain ⟨n, rfl⟩ : ∃ k, n = k + 1 := ⟨n - 1, by omega⟩
    obtain ⟨m, rfl⟩ : ∃ k, m = k + 1 := ⟨m - 1, by omega⟩
    have n123 : nw ≤ 8 ∧ nj ≤ 10 ∧ nc ≤ 14 := ⟨hX.1.1, hX.1.2.1, hX.1.2.2.1⟩
    have hlt : (nI i < nI N - nI 6) = (i + 6 < N) := by
      apply propext
      rw [Int32.lt_iff_toInt_lt, pk_sub_toInt (by omega) (by omega), nI_toInt (by omega)]
      omega
    by_cases c : i + 6 < N
    · obtain ⟨q1, q2, q3, q4, q5, q6, q7, q8, q9⟩ := id hQ
      obtain ⟨t1, u', u1, u2, u3, u4, k1, k2, k3, k4, k5, k6⟩ := wl_keeps q3 q6
      have X1 : wX false nw nj nc σ t1 := wX_r hX (fun _ _ => rfl) k3 k4
      obtain ⟨x, s2, t2, x1, p1, p2, X2, F2, Y2⟩ := wl_year X1
      have Q1 : wQ 0 cN nx u' nw nj nc σ t1 := ⟨q1, q2, u1, q4, q5, k2, by omega, by omega, fun k hk => by omega⟩
      obtain ⟨r, s3, t3, r1, r2, r3, r4, r5, r6⟩ := ih (i + 1) n m (q + x) 0 cN nx u' s2 t2 (by omega) (by omega) (by omega) (by omega) X2 (by rw [Y2, k4 1 (by omega) (by omega), hY, nI_add]; rfl) (wQ_fr n123 F2 Q1) (Or.inr ⟨by omega, by omega⟩)
      refine ⟨r, s3, t3, ?_, ?_, r3, r4, r5, wFk_tr (wFk_tr (wFk_r (fun _ _ => rfl) k3 k4) (wFk_q F2)) r6⟩
      · simp -implicitDefEqProofs (disch := omega) only [e_X11_years_34, e_X11_years_34__1, e_X11_years_61, e_X11_years_61__1, e_X11_years_61__2, e_X11_years_61__3, hlt, c, p1, wx_bd, wx_let, wx_st, wx_lit, wx_ga, wx_sa, pk_mul, nI_add, wx_le, wx_lt, wx_eq, wx_en, wx_ne', wx_nn, wx_ltn, wx_len, wx_nlt, wx_nle, wx_bz0, wx_bz1, if_pos, if_neg, wx_ite, Nat.reduceEqDiff, eq_self, if_true, if_false, not_true_eq_false, not_false_eq_true]
        exact r1
      · simp -implicitDefEqProofs (disch := omega) only [e_X12_years_36, e_X12_years_36__1, e_X12_years_36__2, e_X12_years_36__3, e_X12_years_36__4, k1, p2, wx_bd, wx_let, wx_st, wx_lit, wx_ga, wx_sa, pk_mul, nI_add, wx_le, wx_lt, wx_eq, wx_en, wx_ne', wx_nn, wx_ltn, wx_len, wx_nlt, wx_nle, wx_bz0, wx_bz1, if_pos, if_neg, wx_ite, Nat.reduceEqDiff, eq_self, if_true, if_false, not_true_eq_false, not_false_eq_true]
        exact r2
    · obtain ⟨s1, t1, cN', rN', r1, r2, X1, Q1, f1, f2, f3, hc', hr'⟩ := wl_rem hX ⟨y + i, by omega, hY⟩ hQ
      obtain ⟨x, s2, t2, x1, p1, p2, X2, F2, Y2⟩ := wl_year X1
      obtain ⟨r, s3, t3, g1, g2, g3, g4, g5, g6⟩ := ih (i + 1) n m (q + x) _ cN' _ rN' s2 t2 (by omega) (by omega) (by omega) (by omega) X2 (by rw [Y2, f3 1 (by omega) (by omega), hY, nI_add]; rfl) (wQ_fr n123 F2 Q1) (by
        rcases hI with ⟨a1, a2, a3⟩ | ⟨a1, a2⟩
        · exact Or.inl ⟨a1, by rw [hc', a2], by rw [hr', a3]⟩
        · exact Or.inr ⟨a1, by rw [if_pos (by omega)]; omega⟩)
      refine ⟨r, s3, t3, ?_, ?_, g3, g4, g5, wFk_tr (wFk_tr (wFk_r f1 f2 f3) (wFk_q F2)) g6⟩
      · simp -implicitDefEqProofs (disch := omega) only [e_X11_years_34, e_X11_years_34__1, e_X11_years_61, e_X11_years_61__1, e_X11_years_61__2, e_X11_years_61__3, hlt, c, r1, p1, wx_bd, wx_let, wx_st, wx_lit, wx_ga, wx_sa, pk_mul, nI_add, wx_le, wx_lt, wx_eq, wx_en, wx_ne', wx_nn, wx_ltn, wx_len, wx_nlt, wx_nle, wx_bz0, wx_bz1, if_pos, if_neg, wx_ite, Nat.reduceEqDiff, eq_self, if_true, if_false, not_true_eq_false, not_false_eq_true]
        exact g1
      · simp -implicitDefEqProofs (disch := omega) only [e_X12_years_36, e_X12_years_36__1, e_X12_years_36__2, e_X12_years_36__3, e_X12_years_36__4, r2, p2, wx_bd, wx_let, wx_st, wx_lit, wx_ga, wx_sa, pk_mul, nI_add, wx_le, wx_lt, wx_eq, wx_en, wx_ne', wx_nn, wx_ltn, wx_len, wx_nlt, wx_nle, wx_bz0, wx_bz1, if_pos, if_neg, wx_ite, Nat.reduceEqDiff, eq_self, if_true, if_false, not_true_eq_false, not_false_eq_true]
        exact g2
set_option maxHeartbeats 1000000 in
theorem ws_years : wp_years wR := by
  intro σ τ a0 h
  have h := wR_told (nI 0) h
  simp only [e_X12_years, wx_st, wx_lit]
  generalize wg_u τ 0 0 (nI 0) = τ at h ⊢
  obtain ⟨nw, nj, nc, hX, hY, hP, hI, hD⟩ := wR_X h
  rcases wk_in a0 1 60 (by omega) (by omega) with ⟨i1, i2⟩ | ⟨N, N1, N2, rfl, i1, i2⟩
  · exact ⟨-nI 1, σ, τ, by simp -implicitDefEqProofs (disch := omega) only [e_X11_years, e_X11_years__1, i1, wx_bd, wx_let, wx_st, wx_lit, wx_ga, wx_sa, pk_mul, nI_add, wx_le, wx_lt, wx_eq, wx_en, wx_ne', wx_nn, wx_ltn, wx_len, wx_nlt, wx_nle, wx_bz0, wx_bz1, if_pos, if_neg, wx_ite, Nat.reduceEqDiff, eq_self, if_true, if_false, not_true_eq_false, not_false_eq_true], by simp -implicitDefEqProofs (disch := omega) only [e_X12_years, e_X12_years__1, e_X12_years__2, e_X12_years__3, i2, wx_bd, wx_let, wx_st, wx_lit, wx_ga, wx_sa, pk_mul, nI_add, wx_le, wx_lt, wx_eq, wx_en, wx_ne', wx_nn, wx_ltn, wx_len, wx_nlt, wx_nle, wx_bz0, wx_bz1, if_pos, if_neg, wx_ite, Nat.reduceEqDiff, eq_self, if_true, if_false, not_true_eq_false, not_false_eq_true], h⟩
  · obtain ⟨y, y1, y2⟩ := id hY
    have e7 := wb_year hX.2.1
    have es : nI 9999 - nI N = nI (9999 - N) := pk_sub (by omega)
    rw [y2] at e7
    by_cases c : y + N ≤ 9999
    · obtain ⟨n, nx, hQ⟩ := wP_Q hP
      have hQ2 : ∃ mm, wQ mm n nx n nw nj nc σ τ ∧ ((N ≤ 6 ∧ n = mm ∧ n = mm) ∨ (6 < N ∧ mm = 0 + 6 - N)) := by
        by_cases c6 : N ≤ 6
        · exact ⟨n, hQ, Or.inl ⟨c6, rfl, rfl⟩⟩
        · obtain ⟨q1, q2, q3, q4, q5, q6, q7, q8, q9⟩ := hQ
          exact ⟨0, ⟨q1, q2, q3, q4, q5, q6, by omega, by omega, fun k hk => by omega⟩, Or.inr ⟨by omega, by omega⟩⟩
      obtain ⟨mm, hQ3, hI3⟩ := hQ2
      obtain ⟨r, s3, t3, r1, r2, r3, r4, r5, r6⟩ := wl_years (N := N) N2 c N 0 wg_N wg_N 0 mm n nx n σ τ (by omega) (by rw [wx_N]; omega) (by rw [wx_N]; omega) (by omega) hX (by rw [y2]; rfl) hQ3 hI3
      refine ⟨r, s3, t3, ?_, ?_, wR_mk r3 r4 r5 hI hD r6⟩
      · simp -implicitDefEqProofs (disch := omega) only [e_X11_years, e_X11_years__1, i1, e7, es, wx_bd, wx_let, wx_st, wx_lit, wx_ga, wx_sa, pk_mul, nI_add, wx_le, wx_lt, wx_eq, wx_en, wx_ne', wx_nn, wx_ltn, wx_len, wx_nlt, wx_nle, wx_bz0, wx_bz1, if_pos, if_neg, wx_ite, Nat.reduceEqDiff, eq_self, if_true, if_false, not_true_eq_false, not_false_eq_true]; exact r1
      · simp -implicitDefEqProofs (disch := omega) only [e_X12_years, e_X12_years__1, e_X12_years__2, e_X12_years__3, i2, y2, wx_bd, wx_let, wx_st, wx_lit, wx_ga, wx_sa, pk_mul, nI_add, wx_le, wx_lt, wx_eq, wx_en, wx_ne', wx_nn, wx_ltn, wx_len, wx_nlt, wx_nle, wx_bz0, wx_bz1, if_pos, if_neg, wx_ite, Nat.reduceEqDiff, eq_self, if_true, if_false, not_true_eq_false, not_false_eq_true]; exact r2
    · refine ⟨-nI 1, σ, τ, ?_, ?_, h⟩
      · simp -implicitDefEqProofs (disch := omega) only [e_X11_years, e_X11_years__1, i1, e7, es, wx_bd, wx_let, wx_st, wx_lit, wx_ga, wx_sa, pk_mul, nI_add, wx_le, wx_lt, wx_eq, wx_en, wx_ne', wx_nn, wx_ltn, wx_len, wx_nlt, wx_nle, wx_bz0, wx_bz1, if_pos, if_neg, wx_ite, Nat.reduceEqDiff, eq_self, if_true, if_false, not_true_eq_false, not_false_eq_true]
      · simp -implicitDefEqProofs (disch := omega) only [e_X12_years, e_X12_years__1, e_X12_years__2, e_X12_years__3, i2, y2, wx_bd, wx_let, wx_st, wx_lit, wx_ga, wx_sa, pk_mul, nI_add, wx_le, wx_lt, wx_eq, wx_en, wx_ne', wx_nn, wx_ltn, wx_len, wx_nlt, wx_nle, wx_bz0, wx_bz1, if_pos, if_neg, wx_ite, Nat.reduceEqDiff, eq_self, if_true, if_false, not_true_eq_false, not_false_eq_true]
set_option maxHeartbeats 1000000 in
theorem ws_undo : wp_undo wR := by
  intro σ τ h
  have h := wR_told (nI 0) h
  simp only [e_X12_undo, wx_st, wx_lit]
  generalize wg_u τ 0 0 (nI 0) = τ at h ⊢
  obtain ⟨nw, nj, nc, hX, hY, hP, hI, hD⟩ := wR_X h
  obtain ⟨n1, n2, n3, n4, n5, n6⟩ := id hX.1
  obtain ⟨n, nx, p1, p2, p3, p4, p5, p6⟩ := hP
  rcases Nat.eq_zero_or_pos n with rfl | hn
  · refine ⟨nI 0, σ, τ, ?_, ?_, h⟩
    · have gb : f_X5_goBack 258 1 σ = some (nI 0, σ) := by
        unfold f_X5_goBack
        simp -implicitDefEqProofs (disch := omega) only [p3, wx_bd, wx_let, wx_st, wx_lit, wx_ga, wx_sa, pk_mul, nI_add, wx_le, wx_lt, wx_eq, wx_en, wx_ne', wx_nn, wx_ltn, wx_len, wx_nlt, wx_nle, wx_bz0, wx_bz1, if_pos, if_neg, wx_ite, Nat.reduceEqDiff, eq_self, if_true, if_false, not_true_eq_false, not_false_eq_true]
      simp -implicitDefEqProofs (disch := omega) only [e_X11_undo, e_X11_undo__1, gb, wx_bd, wx_let, wx_st, wx_lit, wx_ga, wx_sa, pk_mul, nI_add, wx_le, wx_lt, wx_eq, wx_en, wx_ne', wx_nn, wx_ltn, wx_len, wx_nlt, wx_nle, wx_bz0, wx_bz1, if_pos, if_neg, wx_ite, Nat.reduceEqDiff, eq_self, if_true, if_false, not_true_eq_false, not_false_eq_true]
    · simp -implicitDefEqProofs (disch := omega) only [e_X12_undo, e_X12_undo__1, e_X12_undo__2, p5, wx_bd, wx_let, wx_st, wx_lit, wx_ga, wx_sa, pk_mul, nI_add, wx_le, wx_lt, wx_eq, wx_en, wx_ne', wx_nn, wx_ltn, wx_len, wx_nlt, wx_nle, wx_bz0, wx_bz1, if_pos, if_neg, wx_ite, Nat.reduceEqDiff, eq_self, if_true, if_false, not_true_eq_false, not_false_eq_true]
  · have hm5 := Nat.mod_lt (nx + 5) (show 6 > 0 by omega)
    have e5 : nI (nx + 6) - nI 1 = nI (nx + 5) := pk_sub (by omega)
    have en : nI n - nI 1 = nI (n - 1) := pk_sub (by omega)
    have hd6 : ¬ nI 6 = nI 0 := by decide
    have hrm : nI (nx + 5) - nI (nx + 5) / nI 6 * nI 6 = nI ((nx + 5) % 6) := pk_rem (by omega) (by omega) (by omega)
    obtain ⟨s1, hs1⟩ : ∃ s1, s1 = wg_u (wg_u σ 258 1 (nI ((nx + 5) % 6))) 258 2 (nI (n - 1)) := ⟨_, rfl⟩
    have su : ∀ q, q ≠ 258 → s1 q = σ q := fun q hq => by rw [hs1]; simp -implicitDefEqProofs (disch := omega) only [wx_uk, wx_un, pk_us, pk_un]
    have s258 : s1 258 1 = nI ((nx + 5) % 6) := by rw [hs1]; simp -implicitDefEqProofs (disch := omega) only [wx_uk, wx_un, pk_us, pk_un]
    have s2582 : s1 258 2 = nI (n - 1) := by rw [hs1]; simp -implicitDefEqProofs (disch := omega) only [wx_uk, wx_un, pk_us, pk_un]
    have cp := wl_copyB (s := 138 + 20 * ((nx + 5) % 6)) (b := 1) (σ := s1) (wShp_k _ hm5) wShp_1 (Or.inr (by omega))
    obtain ⟨S, hS⟩ : ∃ S, S = wcB (138 + 20 * ((nx + 5) % 6)) 1 s1 := ⟨_, rfl⟩
    rw [← hS] at cp
    have Su : ∀ q, q < 1 ∨ 21 ≤ q → S q = s1 q := fun q hq => by rw [hS]; exact wcB_un (by omega)
    obtain ⟨T, k1, k2, k3, k4⟩ := wl_undo_l (u := n - 1) (by omega) 295 0 wg_N (wg_u τ 0 3 (nI (n - 1))) (by omega) (by rw [wx_N]; omega) (by simp -implicitDefEqProofs (disch := omega) only [wx_uk, wx_un, pk_us, pk_un])
    have Tu : ∀ a, a ≠ 0 → a ≠ 1 → T a = τ a := fun a h0 h1 => by rw [k2 a h1, wx_un h0]
    have T0 : ∀ i, i ≠ 3 → T 0 i = τ 0 i := fun i hi => by rw [k2 0 (by omega), wx_uk, pk_un hi]
    have T1 : ∀ j, j < 295 → T 1 j = τ 2 (295 * (n - 1) + j) := fun j hj => by rw [k4 j (by omega) hj, wx_un (by omega)]
    refine ⟨nI 1, S, T, ?_, ?_, ?_⟩
    · have gb : f_X5_goBack 258 1 σ = some (nI 1, S) := by
        unfold f_X5_goBack
        simp -implicitDefEqProofs (disch := omega) only [sc_r258_0, wg_rm, p3, p4, e5, hrm, hd6, en, wx_uk, wx_un, pk_us, pk_un, wx_bd, wx_let, wx_st, wx_lit, wx_ga, wx_sa, pk_mul, nI_add, wx_le, wx_lt, wx_eq, wx_en, wx_ne', wx_nn, wx_ltn, wx_len, wx_nlt, wx_nle, wx_bz0, wx_bz1, if_pos, if_neg, wx_ite, Nat.reduceEqDiff, eq_self, if_true, if_false, not_true_eq_false, not_false_eq_true]
        rw [← hs1, wl_gr hm5]
        rw [cp]
        simp -implicitDefEqProofs (disch := omega) only [wx_bd, wx_let, wx_st, wx_lit, wx_ga, wx_sa, pk_mul, nI_add, wx_le, wx_lt, wx_eq, wx_en, wx_ne', wx_nn, wx_ltn, wx_len, wx_nlt, wx_nle, wx_bz0, wx_bz1, if_pos, if_neg, wx_ite, Nat.reduceEqDiff, eq_self, if_true, if_false, not_true_eq_false, not_false_eq_true]
      simp -implicitDefEqProofs (disch := omega) only [e_X11_undo, e_X11_undo__1, gb, wx_bd, wx_let, wx_st, wx_lit, wx_ga, wx_sa, pk_mul, nI_add, wx_le, wx_lt, wx_eq, wx_en, wx_ne', wx_nn, wx_ltn, wx_len, wx_nlt, wx_nle, wx_bz0, wx_bz1, if_pos, if_neg, wx_ite, Nat.reduceEqDiff, eq_self, if_true, if_false, not_true_eq_false, not_false_eq_true]
    · simp -implicitDefEqProofs (disch := omega) only [e_X12_undo, e_X12_undo__1, e_X12_undo__2, p5, en, wx_bd, wx_let, wx_st, wx_lit, wx_ga, wx_sa, pk_mul, nI_add, wx_le, wx_lt, wx_eq, wx_en, wx_ne', wx_nn, wx_ltn, wx_len, wx_nlt, wx_nle, wx_bz0, wx_bz1, if_pos, if_neg, wx_ite, Nat.reduceEqDiff, eq_self, if_true, if_false, not_true_eq_false, not_false_eq_true]
      exact k1
    · have old := p6 (n - 1) (by omega)
      rw [show nx + 6 - n + (n - 1) = nx + 5 by omega] at old
      have n123 : nw ≤ 8 ∧ nj ≤ 10 ∧ nc ≤ 14 := ⟨n1, n2, n3⟩
      have b0 : wB nw nj nc s1 (138 + 20 * ((nx + 5) % 6)) (fun i => τ 2 (295 * (n - 1) + i)) τ := wB_fr n123 (fun a q1 q2 => su a (by omega)) (fun _ _ => rfl) (fun _ _ => rfl) (fun _ _ => rfl) (fun _ _ => rfl) (fun _ _ => rfl) old.1
      have b1 := wcB_B (b := 1) n123 (Or.inr (by omega)) b0
      rw [← hS] at b1
      have b2 : wB nw nj nc S 1 (T 1) T := wB_fr n123 (fun _ _ _ => rfl) (fun i hi => T1 i hi) (fun i _ => by rw [Tu 4 (by omega) (by omega)]) (fun i _ => by rw [Tu 5 (by omega) (by omega)]) (fun i _ => by rw [Tu 6 (by omega) (by omega)]) (fun i _ => by rw [Tu 7 (by omega) (by omega)]) b1
      obtain ⟨x1, x2, x3, x4, x5⟩ := hX
      refine wR_mk (nw := nw) (nj := nj) (nc := nc) ⟨wN_fr (T0 6 (by omega)) (T0 7 (by omega)) (T0 8 (by omega)) x1, b2, ?_, ?_, ?_, ?_⟩ (wY_fr (T1 0 (by omega)) old.2) ?_ hI hD ⟨fun a q1 q2 => by rw [Su a (by omega), su a (by omega)], T0, Tu 9 (by omega) (by omega), Tu 10 (by omega) (by omega), Tu 33 (by omega) (by omega)⟩
      · exact wPg_fr (fun a q1 q2 => by rw [Su a (by omega), su a (by omega)]) (fun i _ => by rw [Tu 8 (by omega) (by omega)]) x3
      · refine wRt_fr (fun a q1 q2 q3 q4 => by rw [Su a (by omega), su a (by omega)]) (fun a i q q1 _ _ _ _ _ q0 => ?_) x4
        by_cases ca : a = 0
        · subst ca
          exact T0 i (by have := q0 rfl; omega)
        · rw [Tu a ca q1]
      · rw [Su 279 (by omega), su 279 (by omega)]; exact x5.1
      · rw [T0 5 (by omega)]; exact x5.2
      · refine ⟨n - 1, (nx + 5) % 6, by omega, hm5, by rw [Su 258 (by omega)]; exact s2582, by rw [Su 258 (by omega)]; exact s258, by rw [k2 0 (by omega), wx_uk, pk_us], fun k hk => ?_⟩
        have ok := p6 k (by omega)
        have hix : ((nx + 5) % 6 + 6 - (n - 1) + k) % 6 = (nx + 6 - n + k) % 6 := by omega
        have hlt := Nat.mod_lt (nx + 6 - n + k) (show 6 > 0 by omega)
        rw [hix, Tu 2 (by omega) (by omega)]
        exact ⟨wB_fr n123 (fun a q1 q2 => by rw [Su a (by omega), su a (by omega)]) (fun _ _ => rfl) (fun i _ => by rw [Tu 4 (by omega) (by omega)]) (fun i _ => by rw [Tu 5 (by omega) (by omega)]) (fun i _ => by rw [Tu 6 (by omega) (by omega)]) (fun i _ => by rw [Tu 7 (by omega) (by omega)]) ok.1, ok.2⟩

/-! cite, cut, feed, end -/
set_option maxHeartbeats 1000000 in
theorem wx_shl14 : ∀ n, n ≤ 14 → nI 1 <<< (nI n &&& nI 31) = nI (2 ^ n) := by decide +kernel
set_option maxHeartbeats 1000000 in
theorem wx_p14 : ∀ n, n < 14 → 2 ^ n < 16384 := by decide
set_option maxHeartbeats 1000000 in
theorem wl_cite0 : ∀ d i n τ, i + d = 14 → d < n → ∃ τ', f_X12_cite_17 n 0 (nI i) τ = some (nI 0, τ') ∧ (∀ a, a ≠ 27 → τ' a = τ a) ∧ (∀ j, i ≤ j → j < 14 → τ' 27 j = nI 0) ∧ ∀ j, j < i → τ' 27 j = τ 27 j := by
  intro d
  induction d with
  | zero =>
    intro i n τ hi hn
    obtain ⟨n, rfl⟩ : ∃ k, n = k + 1 := ⟨n - 1, by omega⟩
    exact ⟨τ, by simp -implicitDefEqProofs (disch := omega) only [e_X12_cite_17, e_X12_cite_17__1, e_X12_cite_17__2, wx_bd, wx_let, wx_st, wx_lit, wx_ga, wx_sa, pk_mul, nI_add, wx_le, wx_lt, wx_eq, wx_en, wx_ne', wx_nn, wx_ltn, wx_len, wx_nlt, wx_nle, wx_bz0, wx_bz1, if_pos, if_neg, wx_ite, Nat.reduceEqDiff, eq_self, if_true, if_false, not_true_eq_false, not_false_eq_true], fun _ _ => rfl, fun j q1 q2 => by omega, fun _ _ => rfl⟩
  | succ d ih =>
    intro i n τ hi hn
    obtain ⟨n, rfl⟩ : ∃ k, n = k + 1 := ⟨n - 1, by omega⟩
    obtain ⟨τ', r1, r2, r3, r4⟩ := ih (i + 1) n (wg_u τ 27 i (nI 0)) (by omega) (by omega)
    refine ⟨τ', ?_, fun a ha => (r2 a ha).trans (wx_un ha), fun j q1 q2 => ?_, fun j q => ?_⟩
    · simp -implicitDefEqProofs (disch := omega) only [e_X12_cite_17, e_X12_cite_17__1, e_X12_cite_17__2, wx_bd, wx_let, wx_st, wx_lit, wx_ga, wx_sa, pk_mul, nI_add, wx_le, wx_lt, wx_eq, wx_en, wx_ne', wx_nn, wx_ltn, wx_len, wx_nlt, wx_nle, wx_bz0, wx_bz1, if_pos, if_neg, wx_ite, Nat.reduceEqDiff, eq_self, if_true, if_false, not_true_eq_false, not_false_eq_true]
      exact r1
    · rcases Nat.lt_or_ge i j with q | q
      · exact r3 j (by omega) q2
      · rw [show j = i by omega, r4 i (by omega), wx_uk, pk_us]
    · rw [r4 j (by omega), wx_uk, pk_un (by omega)]
set_option maxHeartbeats 1000000 in
theorem ws_cite : wp_cite wR := by
  intro σ τ a0 a1 h
  have h := wR_told (nI 0) h
  simp only [e_X12_cite, wx_st, wx_lit]
  simp -implicitDefEqProofs only [e_X12_cite__1, wx_lit]
  generalize wg_u τ 0 0 (nI 0) = τ at h ⊢
  obtain ⟨nw, nj, nc, ⟨h1, h2, h3, h4, h5⟩, hP, hI, hD, hF⟩ := id h
  obtain ⟨n1, n2, n3, n4, n5, n6⟩ := id h1
  obtain ⟨-, -, -, -, t1, t2, t3, t4⟩ := id h5
  obtain ⟨n, m1, m2, m3, m4, m5⟩ := id t2
  have m2 : σ 49 6 = nI n := m2
  by_cases c0 : a0 = -nI 1
  · subst c0
    obtain ⟨τ', r1, r2, r3, -⟩ := wl_cite0 14 0 wg_N (wg_u τ 0 49 (nI 0)) (by omega) (by rw [wx_N]; omega)
    refine ⟨nI 0, wg_u σ 49 6 (nI 0), τ', by simp -implicitDefEqProofs (disch := omega) only [e_X11_cite, e_X11_cite__1, e_X11_cite__2, wx_bd, wx_let, wx_st, wx_lit, wx_ga, wx_sa, pk_mul, nI_add, wx_le, wx_lt, wx_eq, wx_en, wx_ne', wx_nn, wx_ltn, wx_len, wx_nlt, wx_nle, wx_bz0, wx_bz1, if_pos, if_neg, wx_ite, Nat.reduceEqDiff, eq_self, if_true, if_false, not_true_eq_false, not_false_eq_true], by simp -implicitDefEqProofs (disch := omega) only [e_X12_cite, e_X12_cite__1, e_X12_cite__2, e_X12_cite__3, e_X12_cite__4, e_X12_cite__5, e_X12_cite__6, e_X12_cite__7, wx_bd, wx_let, wx_st, wx_lit, wx_ga, wx_sa, pk_mul, nI_add, wx_le, wx_lt, wx_eq, wx_en, wx_ne', wx_nn, wx_ltn, wx_len, wx_nlt, wx_nle, wx_bz0, wx_bz1, if_pos, if_neg, wx_ite, Nat.reduceEqDiff, eq_self, if_true, if_false, not_true_eq_false, not_false_eq_true]; exact r1, ?_⟩
    refine wR_td (fun a ha => by simp -implicitDefEqProofs (disch := omega) only [wx_uk, wx_un, pk_us, pk_un]) (fun a i _ ha q => ?_) ⟨h1, h2, h3, h4, h5⟩ hP hI hD hF ?_ ?_ ?_ ?_
    · rw [r2 a (by omega)]
      by_cases ca : a = 0
      · subst ca
        have := q rfl
        simp -implicitDefEqProofs (disch := omega) only [wx_uk, wx_un, pk_us, pk_un]
      · simp -implicitDefEqProofs (disch := omega) only [wx_uk, wx_un, pk_us, pk_un]
    · exact wTr_fr (by simp -implicitDefEqProofs (disch := omega) only [wx_uk, wx_un, pk_us, pk_un]) (fun a q1 q2 => by simp -implicitDefEqProofs (disch := omega) only [wx_uk, wx_un, pk_us, pk_un]) (by simp -implicitDefEqProofs (disch := omega) only [r2, wx_uk, wx_un, pk_us, pk_un]) (fun a i q1 q2 _ => by simp -implicitDefEqProofs (disch := omega) only [r2, wx_uk, wx_un, pk_us, pk_un]) t1
    · refine ⟨0, by omega, by simp -implicitDefEqProofs (disch := omega) only [wx_uk, wx_un, pk_us, pk_un], by simp -implicitDefEqProofs (disch := omega) only [r2, wx_uk, wx_un, pk_us, pk_un], fun i hi => by omega, fun a ha => ⟨0, by omega, r3 a (by omega) ha, fun c hc => ?_⟩⟩
      simp
    · exact wPa_fr (by simp -implicitDefEqProofs (disch := omega) only [wx_uk, wx_un, pk_us, pk_un]) (fun i _ => by simp -implicitDefEqProofs (disch := omega) only [r2, wx_uk, wx_un, pk_us, pk_un]) t3
    · exact wHd_fr (by simp -implicitDefEqProofs (disch := omega) only [wx_uk, wx_un, pk_us, pk_un]) (fun a q1 q2 => by simp -implicitDefEqProofs (disch := omega) only [wx_uk, wx_un, pk_us, pk_un]) (by simp -implicitDefEqProofs (disch := omega) only [r2, wx_uk, wx_un, pk_us, pk_un]) (fun a i q1 q2 _ => by simp -implicitDefEqProofs (disch := omega) only [r2, wx_uk, wx_un, pk_us, pk_un]) t4
  rcases wk_in a0 0 13 (by omega) (by omega) with ⟨i1, i2⟩ | ⟨u, u1, u2, rfl, i3, i4⟩
  · exact ⟨-nI 1, σ, τ, by simp -implicitDefEqProofs (disch := omega) only [e_X11_cite, e_X11_cite__1, e_X11_cite__2, e_X8_addCite, e_X8_addCite__1, e_X8_addCite__2, e_X8_addCite_29, e_X8_addCite_30, e_X8_addCite_30__1, e_X8_addCite_30__2, e_X8_addCite_30__3, i1, c0, wx_bd, wx_let, wx_st, wx_lit, wx_ga, wx_sa, pk_mul, nI_add, wx_le, wx_lt, wx_eq, wx_en, wx_ne', wx_nn, wx_ltn, wx_len, wx_nlt, wx_nle, wx_bz0, wx_bz1, if_pos, if_neg, wx_ite, Nat.reduceEqDiff, eq_self, if_true, if_false, not_true_eq_false, not_false_eq_true], by simp -implicitDefEqProofs (disch := omega) only [e_X12_cite, e_X12_cite__1, e_X12_cite__2, e_X12_cite__3, e_X12_cite__4, e_X12_cite__5, e_X12_cite__6, e_X12_cite__7, i2, c0, wx_bd, wx_let, wx_st, wx_lit, wx_ga, wx_sa, pk_mul, nI_add, wx_le, wx_lt, wx_eq, wx_en, wx_ne', wx_nn, wx_ltn, wx_len, wx_nlt, wx_nle, wx_bz0, wx_bz1, if_pos, if_neg, wx_ite, Nat.reduceEqDiff, eq_self, if_true, if_false, not_true_eq_false, not_false_eq_true], h⟩
  rcases wk_in a1 0 13 (by omega) (by omega) with ⟨j1, j2⟩ | ⟨d, d1, d2, rfl, j3, j4⟩
  · exact ⟨-nI 1, σ, τ, by simp -implicitDefEqProofs (disch := omega) only [e_X11_cite, e_X11_cite__1, e_X11_cite__2, e_X8_addCite, e_X8_addCite__1, e_X8_addCite__2, e_X8_addCite_29, e_X8_addCite_30, e_X8_addCite_30__1, e_X8_addCite_30__2, e_X8_addCite_30__3, i3, j1, wx_bd, wx_let, wx_st, wx_lit, wx_ga, wx_sa, pk_mul, nI_add, wx_le, wx_lt, wx_eq, wx_en, wx_ne', wx_nn, wx_ltn, wx_len, wx_nlt, wx_nle, wx_bz0, wx_bz1, if_pos, if_neg, wx_ite, Nat.reduceEqDiff, eq_self, if_true, if_false, not_true_eq_false, not_false_eq_true], by simp -implicitDefEqProofs (disch := omega) only [e_X12_cite, e_X12_cite__1, e_X12_cite__2, e_X12_cite__3, e_X12_cite__4, e_X12_cite__5, e_X12_cite__6, e_X12_cite__7, i4, j2, wx_bd, wx_let, wx_st, wx_lit, wx_ga, wx_sa, pk_mul, nI_add, wx_le, wx_lt, wx_eq, wx_en, wx_ne', wx_nn, wx_ltn, wx_len, wx_nlt, wx_nle, wx_bz0, wx_bz1, if_pos, if_neg, wx_ite, Nat.reduceEqDiff, eq_self, if_true, if_false, not_true_eq_false, not_false_eq_true], h⟩
  by_cases cud : u = d
  · exact ⟨-nI 1, σ, τ, by simp -implicitDefEqProofs (disch := omega) only [e_X11_cite, e_X11_cite__1, e_X11_cite__2, e_X8_addCite, e_X8_addCite__1, e_X8_addCite__2, e_X8_addCite_29, e_X8_addCite_30, e_X8_addCite_30__1, e_X8_addCite_30__2, e_X8_addCite_30__3, i3, j3, wx_bd, wx_let, wx_st, wx_lit, wx_ga, wx_sa, pk_mul, nI_add, wx_le, wx_lt, wx_eq, wx_en, wx_ne', wx_nn, wx_ltn, wx_len, wx_nlt, wx_nle, wx_bz0, wx_bz1, if_pos, if_neg, wx_ite, Nat.reduceEqDiff, eq_self, if_true, if_false, not_true_eq_false, not_false_eq_true], by simp -implicitDefEqProofs (disch := omega) only [e_X12_cite, e_X12_cite__1, e_X12_cite__2, e_X12_cite__3, e_X12_cite__4, e_X12_cite__5, e_X12_cite__6, e_X12_cite__7, i4, j4, wx_bd, wx_let, wx_st, wx_lit, wx_ga, wx_sa, pk_mul, nI_add, wx_le, wx_lt, wx_eq, wx_en, wx_ne', wx_nn, wx_ltn, wx_len, wx_nlt, wx_nle, wx_bz0, wx_bz1, if_pos, if_neg, wx_ite, Nat.reduceEqDiff, eq_self, if_true, if_false, not_true_eq_false, not_false_eq_true], h⟩
  by_cases c16 : n = 16
  · exact ⟨-nI 1, σ, τ, by simp -implicitDefEqProofs (disch := omega) only [e_X11_cite, e_X11_cite__1, e_X11_cite__2, e_X8_addCite, e_X8_addCite__1, e_X8_addCite__2, e_X8_addCite_29, e_X8_addCite_30, e_X8_addCite_30__1, e_X8_addCite_30__2, e_X8_addCite_30__3, i3, j3, m2, wx_bd, wx_let, wx_st, wx_lit, wx_ga, wx_sa, pk_mul, nI_add, wx_le, wx_lt, wx_eq, wx_en, wx_ne', wx_nn, wx_ltn, wx_len, wx_nlt, wx_nle, wx_bz0, wx_bz1, if_pos, if_neg, wx_ite, Nat.reduceEqDiff, eq_self, if_true, if_false, not_true_eq_false, not_false_eq_true], by simp -implicitDefEqProofs (disch := omega) only [e_X12_cite, e_X12_cite__1, e_X12_cite__2, e_X12_cite__3, e_X12_cite__4, e_X12_cite__5, e_X12_cite__6, e_X12_cite__7, i4, j4, m3, wx_bd, wx_let, wx_st, wx_lit, wx_ga, wx_sa, pk_mul, nI_add, wx_le, wx_lt, wx_eq, wx_en, wx_ne', wx_nn, wx_ltn, wx_len, wx_nlt, wx_nle, wx_bz0, wx_bz1, if_pos, if_neg, wx_ite, Nat.reduceEqDiff, eq_self, if_true, if_false, not_true_eq_false, not_false_eq_true], h⟩
  obtain ⟨g, g1, g2, g3⟩ := m5 u (by omega)
  have es := wx_shl14 d (by omega)
  refine ⟨nI (n + 1), wg_u (wg_u (wg_u σ 53 n (nI u)) 54 n (nI d)) 49 6 (nI (n + 1)), wg_u (wg_u τ 27 u (nI (g ||| 2 ^ d))) 0 49 (nI (n + 1)), by simp -implicitDefEqProofs (disch := omega) only [e_X11_cite, e_X11_cite__1, e_X11_cite__2, e_X8_addCite, e_X8_addCite__1, e_X8_addCite__2, e_X8_addCite_30, e_X8_addCite_30__1, e_X8_addCite_30__2, e_X8_addCite_30__3, i3, j3, m2, wx_uk, wx_un, pk_us, pk_un, wx_bd, wx_let, wx_st, wx_lit, wx_ga, wx_sa, pk_mul, nI_add, wx_le, wx_lt, wx_eq, wx_en, wx_ne', wx_nn, wx_ltn, wx_len, wx_nlt, wx_nle, wx_bz0, wx_bz1, if_pos, if_neg, wx_ite, Nat.reduceEqDiff, eq_self, if_true, if_false, not_true_eq_false, not_false_eq_true], by simp -implicitDefEqProofs (disch := omega) only [e_X12_cite, e_X12_cite__1, e_X12_cite__2, e_X12_cite__3, e_X12_cite__4, e_X12_cite__5, e_X12_cite__6, e_X12_cite__7, i4, j4, m3, g2, es, fa_or, wx_uk, wx_un, pk_us, pk_un, wx_bd, wx_let, wx_st, wx_lit, wx_ga, wx_sa, pk_mul, nI_add, wx_le, wx_lt, wx_eq, wx_en, wx_ne', wx_nn, wx_ltn, wx_len, wx_nlt, wx_nle, wx_bz0, wx_bz1, if_pos, if_neg, wx_ite, Nat.reduceEqDiff, eq_self, if_true, if_false, not_true_eq_false, not_false_eq_true], ?_⟩
  refine wR_td (fun a ha => by simp -implicitDefEqProofs (disch := omega) only [wx_uk, wx_un, pk_us, pk_un]) (fun a i _ ha q => ?_) ⟨h1, h2, h3, h4, h5⟩ hP hI hD hF ?_ ?_ ?_ ?_
  · by_cases ca : a = 0
    · subst ca
      have := q rfl
      simp -implicitDefEqProofs (disch := omega) only [wx_uk, wx_un, pk_us, pk_un]
    · simp -implicitDefEqProofs (disch := omega) only [wx_uk, wx_un, pk_us, pk_un]
  · exact wTr_fr (by simp -implicitDefEqProofs (disch := omega) only [wx_uk, wx_un, pk_us, pk_un]) (fun a q1 q2 => by simp -implicitDefEqProofs (disch := omega) only [wx_uk, wx_un, pk_us, pk_un]) (by simp -implicitDefEqProofs (disch := omega) only [wx_uk, wx_un, pk_us, pk_un]) (fun a i q1 q2 _ => by simp -implicitDefEqProofs (disch := omega) only [wx_uk, wx_un, pk_us, pk_un]) t1
  · refine ⟨n + 1, by omega, by simp -implicitDefEqProofs (disch := omega) only [wx_uk, wx_un, pk_us, pk_un], by simp -implicitDefEqProofs (disch := omega) only [wx_uk, wx_un, pk_us, pk_un], fun i hi => ?_, fun a ha => ?_⟩
    · by_cases c : i = n
      · subst c
        simp -implicitDefEqProofs (disch := omega) only [Nat.zero_add, wx_uk, wx_un, pk_us, pk_un]
        exact ⟨⟨u, by omega, rfl⟩, d, by omega, rfl⟩
      · have := m4 i (by omega)
        simp -implicitDefEqProofs (disch := omega) only [Nat.zero_add, wx_uk, wx_un, pk_us, pk_un] at this ⊢
        exact this
    · have old : ∀ (c : Nat), (∃ i, i < n + 1 ∧ wg_u (wg_u (wg_u σ 53 n (nI u)) 54 n (nI d)) 49 6 (nI (n + 1)) (0 + 53) i = nI a ∧ wg_u (wg_u (wg_u σ 53 n (nI u)) 54 n (nI d)) 49 6 (nI (n + 1)) (0 + 54) i = nI c) ↔ (∃ i, i < n ∧ σ 53 i = nI a ∧ σ 54 i = nI c) ∨ (nI u = nI a ∧ nI d = nI c) := by
        intro c
        constructor
        · rintro ⟨i, q0, q1, q2⟩
          by_cases ci : i = n
          · subst ci
            simp -implicitDefEqProofs (disch := omega) only [Nat.zero_add, wx_uk, wx_un, pk_us, pk_un] at q1 q2
            exact Or.inr ⟨q1, q2⟩
          · simp -implicitDefEqProofs (disch := omega) only [Nat.zero_add, wx_uk, wx_un, pk_us, pk_un] at q1 q2
            exact Or.inl ⟨i, by omega, q1, q2⟩
        · rintro (⟨i, q0, q1, q2⟩ | ⟨q1, q2⟩)
          · refine ⟨i, by omega, ?_, ?_⟩
            · simp -implicitDefEqProofs (disch := omega) only [Nat.zero_add, wx_uk, wx_un, pk_us, pk_un]; exact q1
            · simp -implicitDefEqProofs (disch := omega) only [Nat.zero_add, wx_uk, wx_un, pk_us, pk_un]; exact q2
          · refine ⟨n, by omega, ?_, ?_⟩
            · simp -implicitDefEqProofs (disch := omega) only [Nat.zero_add, wx_uk, wx_un, pk_us, pk_un]; exact q1
            · simp -implicitDefEqProofs (disch := omega) only [Nat.zero_add, wx_uk, wx_un, pk_us, pk_un]; exact q2
      by_cases cau : a = u
      · subst cau
        refine ⟨g ||| 2 ^ d, ?_, by simp -implicitDefEqProofs (disch := omega) only [wx_uk, wx_un, pk_us, pk_un], fun c hc => ?_⟩
        · have := wx_p14 d (by omega)
          exact Nat.or_lt_two_pow (n := 14) g1 this
        · rw [fb_bit_set, old c, Bool.or_eq_true, g3 c hc, decide_eq_true_eq]
          constructor
          · rintro (q | q)
            · exact Or.inl q
            · exact Or.inr ⟨rfl, by rw [q]⟩
          · rintro (q | q)
            · exact Or.inl q
            · exact Or.inr ((nI_eq (by omega) (by omega)).mp q.2).symm
      · obtain ⟨m, m6, m7, m8⟩ := m5 a ha
        refine ⟨m, m6, by simp -implicitDefEqProofs (disch := omega) only [wx_uk, wx_un, pk_us, pk_un]; exact m7, fun c hc => ?_⟩
        rw [old c, m8 c hc, wx_eq (a := u) (by omega) (by omega)]
        constructor
        · exact Or.inl
        · rintro (q | q)
          · exact q
          · exact absurd q.1.symm cau
  · exact wPa_fr (by simp -implicitDefEqProofs (disch := omega) only [wx_uk, wx_un, pk_us, pk_un]) (fun i _ => by simp -implicitDefEqProofs (disch := omega) only [wx_uk, wx_un, pk_us, pk_un]) t3
  · exact wHd_fr (by simp -implicitDefEqProofs (disch := omega) only [wx_uk, wx_un, pk_us, pk_un]) (fun a q1 q2 => by simp -implicitDefEqProofs (disch := omega) only [wx_uk, wx_un, pk_us, pk_un]) (by simp -implicitDefEqProofs (disch := omega) only [wx_uk, wx_un, pk_us, pk_un]) (fun a i q1 q2 _ => by simp -implicitDefEqProofs (disch := omega) only [wx_uk, wx_un, pk_us, pk_un]) t4
section CU
variable {σ τ : wg_M}
set_option maxHeartbeats 1000000 in
theorem wl_worth_l (h : wPa σ 0 τ) {t b : Nat} (ht : t ≤ 1) (hb : b ≤ 10) : ∀ d i n m s, i + d = b → s ≤ 99 * i → d < n → d < m → ∃ r, r ≤ 990 ∧ f_X8_worthOf_6 n 49 (nI t) (nI b) (nI s) (nI i) σ = some (nI r, σ) ∧ f_X12_worthOf_6 m 0 (nI t) (nI b) (nI s) (nI i) τ = some (nI r, τ) := by
  intro d
  induction d with
  | zero =>
    intro i n m s hi hs hn hm
    obtain ⟨n, rfl⟩ : ∃ k, n = k + 1 := ⟨n - 1, by omega⟩
    obtain ⟨m, rfl⟩ : ∃ k, m = k + 1 := ⟨m - 1, by omega⟩
    exact ⟨s, by omega, by simp -implicitDefEqProofs (disch := omega) only [e_X8_worthOf_6, e_X8_worthOf_6__1, e_X8_worthOf_6__2, e_X8_worthOf_6__3, wx_bd, wx_let, wx_st, wx_lit, wx_ga, wx_sa, pk_mul, nI_add, wx_le, wx_lt, wx_eq, wx_en, wx_ne', wx_nn, wx_ltn, wx_len, wx_nlt, wx_nle, wx_bz0, wx_bz1, if_pos, if_neg, wx_ite, Nat.reduceEqDiff, eq_self, if_true, if_false, not_true_eq_false, not_false_eq_true], by simp -implicitDefEqProofs (disch := omega) only [e_X12_worthOf_6, e_X12_worthOf_6__1, e_X12_worthOf_6__2, e_X12_worthOf_6__3, wx_bd, wx_let, wx_st, wx_lit, wx_ga, wx_sa, pk_mul, nI_add, wx_le, wx_lt, wx_eq, wx_en, wx_ne', wx_nn, wx_ltn, wx_len, wx_nlt, wx_nle, wx_bz0, wx_bz1, if_pos, if_neg, wx_ite, Nat.reduceEqDiff, eq_self, if_true, if_false, not_true_eq_false, not_false_eq_true]⟩
  | succ d ih =>
    intro i n m s hi hs hn hm
    obtain ⟨n, rfl⟩ : ∃ k, n = k + 1 := ⟨n - 1, by omega⟩
    obtain ⟨m, rfl⟩ : ∃ k, m = k + 1 := ⟨m - 1, by omega⟩
    obtain ⟨p1, v, p2, p3⟩ := h (t * 10 + i) (by omega)
    have p1 : σ 55 (t * 10 + i) = nI v := p1.trans p3
    have p4 : τ 29 (10 * t + i) = nI v := by rw [show 10 * t + i = t * 10 + i by omega]; exact p3
    obtain ⟨r, r0, r1, r2⟩ := ih (i + 1) n m (s + v) (by omega) (by omega) (by omega) (by omega)
    refine ⟨r, r0, ?_, ?_⟩
    · simp -implicitDefEqProofs (disch := omega) only [e_X8_worthOf_6, e_X8_worthOf_6__1, e_X8_worthOf_6__2, e_X8_worthOf_6__3, p1, wx_bd, wx_let, wx_st, wx_lit, wx_ga, wx_sa, pk_mul, nI_add, wx_le, wx_lt, wx_eq, wx_en, wx_ne', wx_nn, wx_ltn, wx_len, wx_nlt, wx_nle, wx_bz0, wx_bz1, if_pos, if_neg, wx_ite, Nat.reduceEqDiff, eq_self, if_true, if_false, not_true_eq_false, not_false_eq_true]; exact r1
    · simp -implicitDefEqProofs (disch := omega) only [e_X12_worthOf_6, e_X12_worthOf_6__1, e_X12_worthOf_6__2, e_X12_worthOf_6__3, p4, wx_bd, wx_let, wx_st, wx_lit, wx_ga, wx_sa, pk_mul, nI_add, wx_le, wx_lt, wx_eq, wx_en, wx_ne', wx_nn, wx_ltn, wx_len, wx_nlt, wx_nle, wx_bz0, wx_bz1, if_pos, if_neg, wx_ite, Nat.reduceEqDiff, eq_self, if_true, if_false, not_true_eq_false, not_false_eq_true]; exact r2
set_option maxHeartbeats 1000000 in
theorem wl_worth (h : wPa σ 0 τ) {t a b : Nat} (ht : t ≤ 1) (ha : a ≤ b) (hb : b ≤ 10) : ∃ r, r ≤ 990 ∧ f_X8_worthOf 49 (nI t) (nI a) (nI b) σ = some (nI r, σ) ∧ f_X12_worthOf 0 (nI t) (nI a) (nI b) τ = some (nI r, τ) := by
  obtain ⟨r, r0, r1, r2⟩ := wl_worth_l h ht hb (b - a) a wg_N wg_N 0 (by omega) (by omega) (by rw [wx_N]; omega) (by rw [wx_N]; omega)
  exact ⟨r, r0, r1, r2⟩
set_option maxHeartbeats 1000000 in
theorem wl_part (h : wPa σ 0 τ) {p : Nat} (hp : p ≤ 10) : ∃ x y r, r ≤ 990 ∧ r = (if y ≤ x then y else x) ∧ x ≤ 990 ∧ y ≤ 990 ∧ f_X8_worthOf 49 (nI 0) (nI 0) (nI p) σ = some (nI x, σ) ∧ f_X8_worthOf 49 (nI 0) (nI p) (nI 10) σ = some (nI y, σ) ∧ f_J9_min_7cf53 (nI x) (nI y) σ = some (nI r, σ) ∧ f_X12_lesserPart 0 (nI p) τ = some (nI r, τ) := by
  obtain ⟨x, x0, x1, x2⟩ := wl_worth h (t := 0) (a := 0) (b := p) (by omega) (by omega) hp
  obtain ⟨y, y0, y1, y2⟩ := wl_worth h (t := 0) (a := p) (b := 10) (by omega) hp (by omega)
  refine ⟨x, y, if y ≤ x then y else x, by split <;> omega, rfl, x0, y0, x1, y1, ?_, ?_⟩
  · rw [wl_min]
    simp -implicitDefEqProofs (disch := omega) only [wx_le]
    split <;> rfl
  · simp -implicitDefEqProofs (disch := omega) only [e_X12_lesserPart, e_X12_lesserPart__1, e_X12_lesserPart__2, e_X12_lesserPart__3, x2, y2, wl_lesser, wx_bd, wx_let, wx_st, wx_lit, wx_ga, wx_sa, pk_mul, nI_add, wx_le, wx_lt, wx_eq, wx_en, wx_ne', wx_nn, wx_ltn, wx_len, wx_nlt, wx_nle, wx_bz0, wx_bz1, if_pos, if_neg, wx_ite, Nat.reduceEqDiff, eq_self, if_true, if_false, not_true_eq_false, not_false_eq_true]
    split <;> rfl
set_option maxHeartbeats 1000000 in
theorem wl_cut_l (h : wPa σ 0 τ) (q : Nat) (hq : q ≤ 2) : ∀ d i n m b f, i + d = 10 → 1 ≤ i → b < 10 → 1 ≤ b → f ≤ 990 → d < n → d < m → f_X12_lesserPart 0 (nI b) τ = some (nI f, τ) → ∃ b' m', 1 ≤ b' ∧ b' < 10 ∧ f_X8_cutPlace_6 n 49 (nI b) (nI f) (nI i) σ = some (nI b', σ) ∧ f_X12_cut_21 m 0 (nI q) (nI b) (nI i) τ = f_X12_cut_21 (m' + 1) 0 (nI q) (nI b') (nI 10) τ := by
  intro d
  induction d with
  | zero =>
    intro i n m b f hi hi1 hb hb1 hf hn hm hl
    obtain ⟨n, rfl⟩ : ∃ k, n = k + 1 := ⟨n - 1, by omega⟩
    obtain ⟨m, rfl⟩ : ∃ k, m = k + 1 := ⟨m - 1, by omega⟩
    refine ⟨b, m, hb1, hb, ?_, ?_⟩
    · simp -implicitDefEqProofs (disch := omega) only [e_X8_cutPlace_6, e_X8_cutPlace_6__1, e_X8_cutPlace_6__2, e_X8_cutPlace_6__3, wx_bd, wx_let, wx_st, wx_lit, wx_ga, wx_sa, pk_mul, nI_add, wx_le, wx_lt, wx_eq, wx_en, wx_ne', wx_nn, wx_ltn, wx_len, wx_nlt, wx_nle, wx_bz0, wx_bz1, if_pos, if_neg, wx_ite, Nat.reduceEqDiff, eq_self, if_true, if_false, not_true_eq_false, not_false_eq_true]
    · rw [show i = 10 by omega]
  | succ d ih =>
    intro i n m b f hi hi1 hb hb1 hf hn hm hl
    obtain ⟨n, rfl⟩ : ∃ k, n = k + 1 := ⟨n - 1, by omega⟩
    obtain ⟨m, rfl⟩ : ∃ k, m = k + 1 := ⟨m - 1, by omega⟩
    obtain ⟨x, y, r, r0, r00, x0, y0, x1, y1, z1, z2⟩ := wl_part h (p := i) (by omega)
    by_cases c : r ≤ f
    · obtain ⟨b', m', g0, g1, g2, g3⟩ := ih (i + 1) n m b f (by omega) (by omega) hb hb1 hf (by omega) (by omega) hl
      refine ⟨b', m', g0, g1, ?_, ?_⟩
      · simp -implicitDefEqProofs (disch := omega) only [e_X8_cutPlace_6, e_X8_cutPlace_6__1, e_X8_cutPlace_6__2, e_X8_cutPlace_6__3, e_X8_cutPlace_43, e_X8_cutPlace_43__1, x1, y1, z1, wx_bd, wx_let, wx_st, wx_lit, wx_ga, wx_sa, pk_mul, nI_add, wx_le, wx_lt, wx_eq, wx_en, wx_ne', wx_nn, wx_ltn, wx_len, wx_nlt, wx_nle, wx_bz0, wx_bz1, if_pos, if_neg, wx_ite, Nat.reduceEqDiff, eq_self, if_true, if_false, not_true_eq_false, not_false_eq_true]; exact g2
      · rw [← g3]
        simp -implicitDefEqProofs (disch := omega) only [e_X12_cut_21, e_X12_cut_21__1, e_X12_cut_21__2, e_X12_cut_21__3, e_X12_cut_21__4, e_X12_cut_42, e_X12_cut_42__1, z2, hl, wx_bd, wx_let, wx_st, wx_lit, wx_ga, wx_sa, pk_mul, nI_add, wx_le, wx_lt, wx_eq, wx_en, wx_ne', wx_nn, wx_ltn, wx_len, wx_nlt, wx_nle, wx_bz0, wx_bz1, if_pos, if_neg, wx_ite, Nat.reduceEqDiff, eq_self, if_true, if_false, not_true_eq_false, not_false_eq_true]
    · obtain ⟨b', m', g0, g1, g2, g3⟩ := ih (i + 1) n m i r (by omega) (by omega) (by omega) (by omega) r0 (by omega) (by omega) z2
      refine ⟨b', m', g0, g1, ?_, ?_⟩
      · simp -implicitDefEqProofs (disch := omega) only [e_X8_cutPlace_6, e_X8_cutPlace_6__1, e_X8_cutPlace_6__2, e_X8_cutPlace_6__3, e_X8_cutPlace_43, e_X8_cutPlace_43__1, x1, y1, z1, wx_bd, wx_let, wx_st, wx_lit, wx_ga, wx_sa, pk_mul, nI_add, wx_le, wx_lt, wx_eq, wx_en, wx_ne', wx_nn, wx_ltn, wx_len, wx_nlt, wx_nle, wx_bz0, wx_bz1, if_pos, if_neg, wx_ite, Nat.reduceEqDiff, eq_self, if_true, if_false, not_true_eq_false, not_false_eq_true]; exact g2
      · rw [← g3]
        simp -implicitDefEqProofs (disch := omega) only [e_X12_cut_21, e_X12_cut_21__1, e_X12_cut_21__2, e_X12_cut_21__3, e_X12_cut_21__4, e_X12_cut_42, e_X12_cut_42__1, z2, hl, wx_bd, wx_let, wx_st, wx_lit, wx_ga, wx_sa, pk_mul, nI_add, wx_le, wx_lt, wx_eq, wx_en, wx_ne', wx_nn, wx_ltn, wx_len, wx_nlt, wx_nle, wx_bz0, wx_bz1, if_pos, if_neg, wx_ite, Nat.reduceEqDiff, eq_self, if_true, if_false, not_true_eq_false, not_false_eq_true]
end CU
set_option maxHeartbeats 1000000 in
theorem ws_cut : wp_cut wR := by
  intro σ τ a0 h
  have h := wR_told (nI 0) h
  simp only [e_X12_cut, wx_st, wx_lit]
  simp -implicitDefEqProofs only [e_X12_cut__1, wx_lit]
  generalize wg_u τ 0 0 (nI 0) = τ at h ⊢
  obtain ⟨nw, nj, nc, ⟨h1, h2, h3, h4, h5⟩, hP, hI, hD, hF⟩ := id h
  obtain ⟨n1, n2, n3, n4, n5, n6⟩ := id h1
  have t3 := h5.2.2.2.2.2.2.1
  rcases wk_in a0 0 2 (by omega) (by omega) with ⟨i1, i2⟩ | ⟨q, q1, q2, rfl, i3, i4⟩
  · refine ⟨-nI 1, σ, τ, ?_, by simp -implicitDefEqProofs (disch := omega) only [e_X12_cut, e_X12_cut__1, e_X12_cut__2, i2, wx_bd, wx_let, wx_st, wx_lit, wx_ga, wx_sa, pk_mul, nI_add, wx_le, wx_lt, wx_eq, wx_en, wx_ne', wx_nn, wx_ltn, wx_len, wx_nlt, wx_nle, wx_bz0, wx_bz1, if_pos, if_neg, wx_ite, Nat.reduceEqDiff, eq_self, if_true, if_false, not_true_eq_false, not_false_eq_true], h⟩
    rw [e_X11_cut]
    refine wx_sw_out (fun k hk he => ?_) (by simp)
    have hk : k < 3 := by simpa using hk
    subst he
    have i1 := i1 σ
    rw [e_X11_within] at i1
    simp -implicitDefEqProofs (disch := omega) only [wx_bd, wx_let, wx_st, wx_lit, wx_ga, wx_sa, pk_mul, nI_add, wx_le, wx_lt, wx_eq, wx_en, wx_ne', wx_nn, wx_ltn, wx_len, wx_nlt, wx_nle, wx_bz0, wx_bz1, if_pos, if_neg, wx_ite, Nat.reduceEqDiff, eq_self, if_true, if_false, not_true_eq_false, not_false_eq_true] at i1
    simp at i1
    exact absurd i1 (by decide)
  · obtain ⟨x, y, f, f0, -, x0, y0, x1, y1, z1, z2⟩ := wl_part t3 (p := 1) (by omega)
    obtain ⟨N, hN5⟩ : ∃ N, wg_N = N + 1 := ⟨4999, rfl⟩
    have hN9 : 9 < N := by have := wx_N; omega
    obtain ⟨b, m', b0, b1, b2, b3⟩ := wl_cut_l t3 q q2 8 2 N wg_N 1 f (by omega) (by omega) (by omega) (by omega) f0 (by omega) (by omega) z2
    have hcp : f_X8_cutPlace 49 σ = some (nI b, σ) := by
      rw [e_X8_cutPlace, hN5]
      simp -implicitDefEqProofs (disch := omega) only [e_X8_cutPlace_6, e_X8_cutPlace_6__1, e_X8_cutPlace_6__2, e_X8_cutPlace_6__3, e_X8_cutPlace_43, e_X8_cutPlace_43__1, x1, y1, z1, wx_bd, wx_let, wx_st, wx_lit, wx_ga, wx_sa, pk_mul, nI_add, wx_le, wx_lt, wx_eq, wx_en, wx_ne', wx_nn, wx_ltn, wx_len, wx_nlt, wx_nle, wx_bz0, wx_bz1, if_pos, if_neg, wx_ite, Nat.reduceEqDiff, eq_self, if_true, if_false, not_true_eq_false, not_false_eq_true]
      exact b2
    obtain ⟨u, u0, u1, u2⟩ := wl_worth t3 (t := 1) (a := 0) (b := b) (by omega) (by omega) (by omega)
    obtain ⟨v, v0, v1, v2⟩ := wl_worth t3 (t := 1) (a := b) (b := 10) (by omega) (by omega) (by omega)
    obtain ⟨k, k0, k1, k2⟩ := wl_worth t3 (t := 0) (a := 0) (b := b) (by omega) (by omega) (by omega)
    obtain ⟨l, l0, l1, l2⟩ := wl_worth t3 (t := 0) (a := b) (b := 10) (by omega) (by omega) (by omega)
    have hm : q_X12_cut__2 (nI q) (nI 1) τ = f_X12_cut_21 (m' + 1) 0 (nI q) (nI b) (nI 10) τ := by
      simp -implicitDefEqProofs (disch := omega) only [e_X12_cut, e_X12_cut__1, e_X12_cut__2, wx_bd, wx_let, wx_st, wx_lit, wx_ga, wx_sa, pk_mul, nI_add, wx_le, wx_lt, wx_eq, wx_en, wx_ne', wx_nn, wx_ltn, wx_len, wx_nlt, wx_nle, wx_bz0, wx_bz1, if_pos, if_neg, wx_ite, Nat.reduceEqDiff, eq_self, if_true, if_false, not_true_eq_false, not_false_eq_true]
      exact b3
    have hm2 : wg_bd (f_X12_isIn 0 (nI q) (nI 0) (nI 2) τ) (q_X12_cut__2 (nI q)) = f_X12_cut_21 (m' + 1) 0 (nI q) (nI b) (nI 10) τ := by
      rw [i4 τ, wx_bd]; exact hm
    rw [hm2]
    rcases (show q = 0 ∨ q = 1 ∨ q = 2 by omega) with rfl | rfl | rfl
    · refine ⟨nI b, σ, τ, ?_, ?_, h⟩
      · rw [e_X11_cut, wx_swk0, hcp]; rfl
      · simp -implicitDefEqProofs (disch := omega) only [e_X12_cut_21, e_X12_cut_21__1, e_X12_cut_21__2, e_X12_cut_21__3, e_X12_cut_21__4, wx_bd, wx_let, wx_st, wx_lit, wx_ga, wx_sa, pk_mul, nI_add, wx_le, wx_lt, wx_eq, wx_en, wx_ne', wx_nn, wx_ltn, wx_len, wx_nlt, wx_nle, wx_bz0, wx_bz1, if_pos, if_neg, wx_ite, Nat.reduceEqDiff, eq_self, if_true, if_false, not_true_eq_false, not_false_eq_true]
    · by_cases c : u < v
      · refine ⟨nI v, σ, τ, ?_, ?_, h⟩
        · rw [e_X11_cut, wx_swk1]
          simp -implicitDefEqProofs (disch := omega) only [e_X11_cut, e_X11_cut__1, e_X11_cut__2, e_X11_cut__3, e_X8_otherHas, e_X8_otherHas__1, e_X8_otherHas__2, e_X8_otherHas__3, e_X8_otherHas__4, hcp, u1, v1, wl_max, wx_bd, wx_let, wx_st, wx_lit, wx_ga, wx_sa, pk_mul, nI_add, wx_le, wx_lt, wx_eq, wx_en, wx_ne', wx_nn, wx_ltn, wx_len, wx_nlt, wx_nle, wx_bz0, wx_bz1, if_pos, if_neg, wx_ite, Nat.reduceEqDiff, eq_self, if_true, if_false, not_true_eq_false, not_false_eq_true]
        · simp -implicitDefEqProofs (disch := omega) only [e_X12_cut_21, e_X12_cut_21__1, e_X12_cut_21__2, e_X12_cut_21__3, e_X12_cut_21__4, e_X12_cut_77, e_X12_cut_77__1, e_X12_cut_77__2, e_X12_cut_77__3, e_X12_cut_77__4, u2, v2, wx_bd, wx_let, wx_st, wx_lit, wx_ga, wx_sa, pk_mul, nI_add, wx_le, wx_lt, wx_eq, wx_en, wx_ne', wx_nn, wx_ltn, wx_len, wx_nlt, wx_nle, wx_bz0, wx_bz1, if_pos, if_neg, wx_ite, Nat.reduceEqDiff, eq_self, if_true, if_false, not_true_eq_false, not_false_eq_true]
      · refine ⟨nI u, σ, τ, ?_, ?_, h⟩
        · rw [e_X11_cut, wx_swk1]
          simp -implicitDefEqProofs (disch := omega) only [e_X11_cut, e_X11_cut__1, e_X11_cut__2, e_X11_cut__3, e_X8_otherHas, e_X8_otherHas__1, e_X8_otherHas__2, e_X8_otherHas__3, e_X8_otherHas__4, hcp, u1, v1, wl_max, wx_bd, wx_let, wx_st, wx_lit, wx_ga, wx_sa, pk_mul, nI_add, wx_le, wx_lt, wx_eq, wx_en, wx_ne', wx_nn, wx_ltn, wx_len, wx_nlt, wx_nle, wx_bz0, wx_bz1, if_pos, if_neg, wx_ite, Nat.reduceEqDiff, eq_self, if_true, if_false, not_true_eq_false, not_false_eq_true]
          by_cases c2 : u ≤ v
          · simp -implicitDefEqProofs (disch := omega) only [show v = u by omega, wx_bd, wx_let, wx_st, wx_lit, wx_ga, wx_sa, pk_mul, nI_add, wx_le, wx_lt, wx_eq, wx_en, wx_ne', wx_nn, wx_ltn, wx_len, wx_nlt, wx_nle, wx_bz0, wx_bz1, if_pos, if_neg, wx_ite, Nat.reduceEqDiff, eq_self, if_true, if_false, not_true_eq_false, not_false_eq_true]
          · simp -implicitDefEqProofs (disch := omega) only [wx_bd, wx_let, wx_st, wx_lit, wx_ga, wx_sa, pk_mul, nI_add, wx_le, wx_lt, wx_eq, wx_en, wx_ne', wx_nn, wx_ltn, wx_len, wx_nlt, wx_nle, wx_bz0, wx_bz1, if_pos, if_neg, wx_ite, Nat.reduceEqDiff, eq_self, if_true, if_false, not_true_eq_false, not_false_eq_true]
        · simp -implicitDefEqProofs (disch := omega) only [e_X12_cut_21, e_X12_cut_21__1, e_X12_cut_21__2, e_X12_cut_21__3, e_X12_cut_21__4, e_X12_cut_77, e_X12_cut_77__1, e_X12_cut_77__2, e_X12_cut_77__3, e_X12_cut_77__4, u2, v2, wx_bd, wx_let, wx_st, wx_lit, wx_ga, wx_sa, pk_mul, nI_add, wx_le, wx_lt, wx_eq, wx_en, wx_ne', wx_nn, wx_ltn, wx_len, wx_nlt, wx_nle, wx_bz0, wx_bz1, if_pos, if_neg, wx_ite, Nat.reduceEqDiff, eq_self, if_true, if_false, not_true_eq_false, not_false_eq_true]
    · by_cases c : u < v
      · refine ⟨nI k, σ, τ, ?_, ?_, h⟩
        · rw [e_X11_cut, wx_swk2]
          simp -implicitDefEqProofs (disch := omega) only [e_X11_cut, e_X11_cut__1, e_X11_cut__2, e_X11_cut__3, e_X8_oneHas, e_X8_oneHas__1, e_X8_oneHas__2, e_X8_oneHas__3, e_X8_oneHas_28, e_X8_oneHas_28__1, e_X8_oneHas_28__2, hcp, u1, v1, k1, l1, wx_bd, wx_let, wx_st, wx_lit, wx_ga, wx_sa, pk_mul, nI_add, wx_le, wx_lt, wx_eq, wx_en, wx_ne', wx_nn, wx_ltn, wx_len, wx_nlt, wx_nle, wx_bz0, wx_bz1, if_pos, if_neg, wx_ite, Nat.reduceEqDiff, eq_self, if_true, if_false, not_true_eq_false, not_false_eq_true]
        · simp -implicitDefEqProofs (disch := omega) only [e_X12_cut_21, e_X12_cut_21__1, e_X12_cut_21__2, e_X12_cut_21__3, e_X12_cut_21__4, e_X12_cut_77, e_X12_cut_77__1, e_X12_cut_77__2, e_X12_cut_77__3, e_X12_cut_77__4, u2, v2, k2, l2, wx_bd, wx_let, wx_st, wx_lit, wx_ga, wx_sa, pk_mul, nI_add, wx_le, wx_lt, wx_eq, wx_en, wx_ne', wx_nn, wx_ltn, wx_len, wx_nlt, wx_nle, wx_bz0, wx_bz1, if_pos, if_neg, wx_ite, Nat.reduceEqDiff, eq_self, if_true, if_false, not_true_eq_false, not_false_eq_true]
      · refine ⟨nI l, σ, τ, ?_, ?_, h⟩
        · rw [e_X11_cut, wx_swk2]
          simp -implicitDefEqProofs (disch := omega) only [e_X11_cut, e_X11_cut__1, e_X11_cut__2, e_X11_cut__3, e_X8_oneHas, e_X8_oneHas__1, e_X8_oneHas__2, e_X8_oneHas__3, e_X8_oneHas_28, e_X8_oneHas_28__1, e_X8_oneHas_28__2, hcp, u1, v1, k1, l1, wx_bd, wx_let, wx_st, wx_lit, wx_ga, wx_sa, pk_mul, nI_add, wx_le, wx_lt, wx_eq, wx_en, wx_ne', wx_nn, wx_ltn, wx_len, wx_nlt, wx_nle, wx_bz0, wx_bz1, if_pos, if_neg, wx_ite, Nat.reduceEqDiff, eq_self, if_true, if_false, not_true_eq_false, not_false_eq_true]
        · simp -implicitDefEqProofs (disch := omega) only [e_X12_cut_21, e_X12_cut_21__1, e_X12_cut_21__2, e_X12_cut_21__3, e_X12_cut_21__4, e_X12_cut_77, e_X12_cut_77__1, e_X12_cut_77__2, e_X12_cut_77__3, e_X12_cut_77__4, u2, v2, k2, l2, wx_bd, wx_let, wx_st, wx_lit, wx_ga, wx_sa, pk_mul, nI_add, wx_le, wx_lt, wx_eq, wx_en, wx_ne', wx_nn, wx_ltn, wx_len, wx_nlt, wx_nle, wx_bz0, wx_bz1, if_pos, if_neg, wx_ite, Nat.reduceEqDiff, eq_self, if_true, if_false, not_true_eq_false, not_false_eq_true]
/-! the TAPE -/
set_option maxHeartbeats 1000000 in
theorem wR_rd {σ σ' τ τ' : wg_M} (h : wR σ τ) (hσ : ∀ a, a ≠ 260 → a ≠ 261 → σ' a = σ a) (hτ : ∀ a i, wLq a i = true → a ≠ 9 → (a = 0 → i ≠ 15) → τ' a i = τ a i) (hR : wRd σ' τ') : wR σ' τ' := by
  obtain ⟨nw, nj, nc, hW, hP, hI, hD, hF⟩ := h
  have hv : ∀ a i, wLv a i = true → τ' a i = τ a i := fun a i q => hτ a i (by simp [wLq, q]) (fun e => by subst e; simp [wLv] at q) (fun e e2 => by subst e; subst e2; simp [wLv] at q)
  refine ⟨nw, nj, nc, wRW_fr (fun a q1 q2 q3 q4 q5 => hσ a (by omega) (by omega)) hv hW, ?_, ?_, hR, ?_⟩
  · exact wP_fr ⟨hW.1.1, hW.1.2.1, hW.1.2.2.1⟩ (by rw [hσ 258 (by omega) (by omega)]) (by rw [hσ 258 (by omega) (by omega)]) (fun a q1 q2 => hσ a (by omega) (by omega)) (hτ 0 3 rfl (by omega) (by omega)) (fun i hi => hτ 2 i (by simp [wLq]) (by omega) (by omega)) (fun i hi => hv 4 i (by simp [wLv]; omega)) (fun i hi => hv 5 i (by simp [wLv]; omega)) (fun i hi => hv 6 i (by simp [wLv]; omega)) (fun i hi => hv 7 i (by simp [wLv]; omega)) hP
  · exact wIm_fr (by rw [hσ 281 (by omega) (by omega)]) (fun a q1 q2 _ _ _ => hσ a (by omega) (by omega)) (hτ 0 58 rfl (by omega) (by omega)) (funext fun i => hτ 33 i (by simp [wLq]) (by omega) (by omega)) hI
  · exact wFl_fr (by rw [hσ 279 (by omega) (by omega)]) (hτ 0 5 rfl (by omega) (by omega)) hF
set_option maxHeartbeats 1000000 in
theorem ws_end : wp_end wR := by
  intro σ τ a0 h
  have h := wR_told (nI 0) h
  simp only [e_X12_end, wx_st, wx_lit]
  simp -implicitDefEqProofs only [e_X12_end__1, wx_lit]
  generalize wg_u τ 0 0 (nI 0) = τ at h ⊢
  obtain ⟨nw, nj, nc, ⟨h1, h2, h3, h4, h5⟩, hP, hI, hD, hF⟩ := id h
  obtain ⟨n1, n2, n3, n4, n5, n6⟩ := id h1
  obtain ⟨⟨n, d1, d2, d3, d4⟩, d5, d6, d7⟩ := id hD
  rcases wk_in a0 0 n (by omega) (by omega) with ⟨i1, i2⟩ | ⟨k, k1, k2, rfl, i3, i4⟩
  · exact ⟨nI 0, σ, τ, by simp -implicitDefEqProofs (disch := omega) only [e_X11_end, e_X11_end__1, e_X11_end__2, d2, i1, wx_bd, wx_let, wx_st, wx_lit, wx_ga, wx_sa, pk_mul, nI_add, wx_le, wx_lt, wx_eq, wx_en, wx_ne', wx_nn, wx_ltn, wx_len, wx_nlt, wx_nle, wx_bz0, wx_bz1, if_pos, if_neg, wx_ite, Nat.reduceEqDiff, eq_self, if_true, if_false, not_true_eq_false, not_false_eq_true], by simp -implicitDefEqProofs (disch := omega) only [e_X12_end, e_X12_end__1, e_X12_end__2, e_X12_end__3, d3, i2, wx_bd, wx_let, wx_st, wx_lit, wx_ga, wx_sa, pk_mul, nI_add, wx_le, wx_lt, wx_eq, wx_en, wx_ne', wx_nn, wx_ltn, wx_len, wx_nlt, wx_nle, wx_bz0, wx_bz1, if_pos, if_neg, wx_ite, Nat.reduceEqDiff, eq_self, if_true, if_false, not_true_eq_false, not_false_eq_true], h⟩
  · refine ⟨nI 1, wg_u σ 260 2 (nI k), wg_u τ 0 15 (nI k), by simp -implicitDefEqProofs (disch := omega) only [e_X11_end, e_X11_end__1, e_X11_end__2, d2, i3, wx_bd, wx_let, wx_st, wx_lit, wx_ga, wx_sa, pk_mul, nI_add, wx_le, wx_lt, wx_eq, wx_en, wx_ne', wx_nn, wx_ltn, wx_len, wx_nlt, wx_nle, wx_bz0, wx_bz1, if_pos, if_neg, wx_ite, Nat.reduceEqDiff, eq_self, if_true, if_false, not_true_eq_false, not_false_eq_true], by simp -implicitDefEqProofs (disch := omega) only [e_X12_end, e_X12_end__1, e_X12_end__2, e_X12_end__3, d3, i4, wx_bd, wx_let, wx_st, wx_lit, wx_ga, wx_sa, pk_mul, nI_add, wx_le, wx_lt, wx_eq, wx_en, wx_ne', wx_nn, wx_ltn, wx_len, wx_nlt, wx_nle, wx_bz0, wx_bz1, if_pos, if_neg, wx_ite, Nat.reduceEqDiff, eq_self, if_true, if_false, not_true_eq_false, not_false_eq_true], ?_⟩
    refine wR_rd h (fun a q1 q2 => by simp -implicitDefEqProofs (disch := omega) only [wx_uk, wx_un, pk_us, pk_un]) (fun a i _ q1 q2 => ?_) ⟨⟨k, by omega, by simp -implicitDefEqProofs (disch := omega) only [wx_uk, wx_un, pk_us, pk_un], by simp -implicitDefEqProofs (disch := omega) only [wx_uk, wx_un, pk_us, pk_un], fun i hi => ?_⟩, by simp -implicitDefEqProofs (disch := omega) only [wx_uk, wx_un, pk_us, pk_un]; exact d5, by simp -implicitDefEqProofs (disch := omega) only [wx_uk, wx_un, pk_us, pk_un]; exact d6, fun i hi => by simp -implicitDefEqProofs (disch := omega) only [wx_uk, wx_un, pk_us, pk_un]; exact d7 i hi⟩
    · by_cases ca : a = 0
      · subst ca
        have := q2 rfl
        simp -implicitDefEqProofs (disch := omega) only [wx_uk, wx_un, pk_us, pk_un]
      · simp -implicitDefEqProofs (disch := omega) only [wx_uk, wx_un, pk_us, pk_un]
    · simp -implicitDefEqProofs (disch := omega) only [wx_uk, wx_un, pk_us, pk_un]
      exact d4 i (by omega)
set_option maxHeartbeats 1000000 in
theorem wx_by (x : Int32) (s : Nat) (hs : s = 24 ∨ s = 16 ∨ s = 8 ∨ s = 0) : ∃ c, c < 256 ∧ wg_ush x (nI s) &&& nI 255 = nI c ∧ (x >>> (nI s &&& nI 31)) &&& nI 255 = nI c := by
  have h1 := pk_and (wg_ush x (nI s)) (m := nI 255) 8 (by decide)
  have h2 := pk_and (x >>> (nI s &&& nI 31)) (m := nI 255) 8 (by decide)
  have hx := x.toBitVec.isLt
  have e1 : (wg_ush x (nI s)).toBitVec.toNat = x.toBitVec.toNat / 2 ^ s := by
    unfold wg_ush
    rcases hs with rfl | rfl | rfl | rfl <;> exact pk_ushr x _ _ (by decide)
  have e2 : (x >>> (nI s &&& nI 31)).toInt = x.toInt >>> s := by
    rcases hs with rfl | rfl | rfl | rfl <;> exact pk_shr x _ _ (by decide)
  refine ⟨_, Nat.mod_lt _ (by decide), h1, ?_⟩
  rw [h2]
  congr 1
  rw [e1]
  have e3 : (x >>> (nI s &&& nI 31)).toInt = (x >>> (nI s &&& nI 31)).toBitVec.toInt := rfl
  have e4 : x.toInt = x.toBitVec.toInt := rfl
  rw [e3, e4, Int.shiftRight_eq_div_pow] at e2
  generalize (x >>> (nI s &&& nI 31)).toBitVec = Y at e2 ⊢
  generalize x.toBitVec = X at e2 hx ⊢
  have hY := Y.isLt
  rw [BitVec.toInt_eq_toNat_cond, BitVec.toInt_eq_toNat_cond] at e2
  rcases hs with rfl | rfl | rfl | rfl <;> (simp only [Nat.reducePow, Int.reducePow] at *; split at e2 <;> split at e2 <;> omega)
set_option maxHeartbeats 1000000 in
theorem wl_num (x : Int32) {n : Nat} {σ τ : wg_M} (hn : n + 4 ≤ 400) (h1 : σ 260 2 = nI n) (h2 : τ 0 15 = nI n) : ∃ σ' τ', f_X6_addNumber 260 x σ = some (nI 0, σ') ∧ f_X12_types 0 x τ = some (nI 0, τ') ∧ (∀ a, a ≠ 260 → a ≠ 261 → σ' a = σ a) ∧ (∀ a, a ≠ 0 → a ≠ 9 → τ' a = τ a) ∧ σ' 260 2 = nI (n + 4) ∧ τ' 0 15 = nI (n + 4) ∧ (∀ i, i ≠ 2 → σ' 260 i = σ 260 i) ∧ (∀ i, i ≠ 15 → τ' 0 i = τ 0 i) ∧ (∀ i, i < n → σ' 261 i = σ 261 i ∧ τ' 9 i = τ 9 i) ∧ ∀ i, n ≤ i → i < n + 4 → σ' 261 i = τ' 9 i ∧ ∃ c, c < 256 ∧ τ' 9 i = nI c := by
  obtain ⟨c3, l3, a3, b3⟩ := wx_by x 24 (by simp)
  obtain ⟨c2, l2, a2, b2⟩ := wx_by x 16 (by simp)
  obtain ⟨c1, l1, a1, b1⟩ := wx_by x 8 (by simp)
  obtain ⟨c0, l0, a0, b0⟩ := wx_by x 0 (by simp)
  have e24 : nI 24 + -nI 8 = nI 16 := by decide
  have e16 : nI 16 + -nI 8 = nI 8 := by decide
  have e8 : nI 8 + -nI 8 = nI 0 := by decide
  have e0 : nI 0 + -nI 8 = -nI 8 := by decide
  have en : -nI 8 < nI 0 := by decide
  obtain ⟨N, hN5⟩ : ∃ N, wg_N = N + 5 := ⟨4995, rfl⟩
  refine ⟨wg_u (wg_u (wg_u (wg_u (wg_u (wg_u (wg_u (wg_u σ 261 n (nI c3)) 260 2 (nI (n + 1))) 261 (n + 1) (nI c2)) 260 2 (nI (n + 1 + 1))) 261 (n + 1 + 1) (nI c1)) 260 2 (nI (n + 1 + 1 + 1))) 261 (n + 1 + 1 + 1) (nI c0)) 260 2 (nI (n + 1 + 1 + 1 + 1)), wg_u (wg_u (wg_u (wg_u (wg_u (wg_u (wg_u (wg_u τ 9 n (nI c3)) 0 15 (nI (n + 1))) 9 (n + 1) (nI c2)) 0 15 (nI (n + 1 + 1))) 9 (n + 1 + 1) (nI c1)) 0 15 (nI (n + 1 + 1 + 1))) 9 (n + 1 + 1 + 1) (nI c0)) 0 15 (nI (n + 1 + 1 + 1 + 1)), ?_, ?_, fun a q1 q2 => ?_, fun a q1 q2 => ?_, ?_, ?_, fun i q => ?_, fun i q => ?_, fun i q => ⟨?_, ?_⟩, fun i q1 q2 => ?_⟩
  · rw [e_X6_addNumber, hN5]
    simp -implicitDefEqProofs (disch := omega) only [e_X6_addNumber_3, e_X6_addNumber_3__1, e_X6_addNumber_3__2, e_X6_addNumber_43, e_X6_addNumber_43__1, h1, a3, a2, a1, a0, e24, e16, e8, e0, en, wx_uk, wx_un, pk_us, pk_un, wx_bd, wx_let, wx_st, wx_lit, wx_ga, wx_sa, pk_mul, nI_add, wx_le, wx_lt, wx_eq, wx_en, wx_ne', wx_nn, wx_ltn, wx_len, wx_nlt, wx_nle, wx_bz0, wx_bz1, if_pos, if_neg, wx_ite, Nat.reduceEqDiff, eq_self, if_true, if_false, not_true_eq_false, not_false_eq_true]
  · rw [e_X12_types, hN5]
    simp -implicitDefEqProofs (disch := omega) only [e_X12_types_3, e_X12_types_3__1, e_X12_types_3__2, e_X12_types_3__3, h2, b3, b2, b1, b0, e24, e16, e8, e0, en, wx_uk, wx_un, pk_us, pk_un, wx_bd, wx_let, wx_st, wx_lit, wx_ga, wx_sa, pk_mul, nI_add, wx_le, wx_lt, wx_eq, wx_en, wx_ne', wx_nn, wx_ltn, wx_len, wx_nlt, wx_nle, wx_bz0, wx_bz1, if_pos, if_neg, wx_ite, Nat.reduceEqDiff, eq_self, if_true, if_false, not_true_eq_false, not_false_eq_true]
  all_goals try (simp -implicitDefEqProofs (disch := omega) only [wx_uk, wx_un, pk_us, pk_un]; done)
  rcases (show i = n ∨ i = n + 1 ∨ i = n + 1 + 1 ∨ i = n + 1 + 1 + 1 by omega) with rfl | rfl | rfl | rfl
  · simp -implicitDefEqProofs (disch := omega) only [wx_uk, wx_un, pk_us, pk_un]; exact ⟨trivial, c3, l3, rfl⟩
  · simp -implicitDefEqProofs (disch := omega) only [wx_uk, wx_un, pk_us, pk_un]; exact ⟨trivial, c2, l2, rfl⟩
  · simp -implicitDefEqProofs (disch := omega) only [wx_uk, wx_un, pk_us, pk_un]; exact ⟨trivial, c1, l1, rfl⟩
  · simp -implicitDefEqProofs (disch := omega) only [wx_uk, wx_un, pk_us, pk_un]; exact ⟨trivial, c0, l0, rfl⟩
set_option maxHeartbeats 1000000 in
theorem ws_feed : wp_feed wR := by
  intro σ τ a0 a1 a2 a3 a4 h
  have h := wR_told (nI 0) h
  simp only [e_X12_feed, wx_st, wx_lit]
  simp -implicitDefEqProofs only [e_X12_feed__1, wx_lit]
  generalize wg_u τ 0 0 (nI 0) = τ at h ⊢
  obtain ⟨nw, nj, nc, ⟨h1, h2, h3, h4, h5⟩, hP, hI, hD, hF⟩ := id h
  obtain ⟨n1, n2, n3, n4, n5, n6⟩ := id h1
  obtain ⟨⟨n, d1, d2, d3, d4⟩, d5, d6, d7⟩ := id hD
  have e380 : nI 400 - nI 20 = nI 380 := by decide
  rcases Nat.lt_or_ge 380 n with c | c
  · exact ⟨-nI 1, σ, τ, by simp -implicitDefEqProofs (disch := omega) only [e_X11_feed, e_X11_feed__1, e_X11_feed__2, e_X11_feed__3, e_X11_feed__4, e_X11_feed__5, e_X11_feed__6, e_X6_hasRoomFor, d2, e380, wx_bd, wx_let, wx_st, wx_lit, wx_ga, wx_sa, pk_mul, nI_add, wx_le, wx_lt, wx_eq, wx_en, wx_ne', wx_nn, wx_ltn, wx_len, wx_nlt, wx_nle, wx_bz0, wx_bz1, if_pos, if_neg, wx_ite, Nat.reduceEqDiff, eq_self, if_true, if_false, not_true_eq_false, not_false_eq_true], by simp -implicitDefEqProofs (disch := omega) only [e_X12_feed, e_X12_feed__1, e_X12_feed__2, e_X12_feed__3, e_X12_feed__4, e_X12_feed__5, e_X12_feed__6, d3, wx_bd, wx_let, wx_st, wx_lit, wx_ga, wx_sa, pk_mul, nI_add, wx_le, wx_lt, wx_eq, wx_en, wx_ne', wx_nn, wx_ltn, wx_len, wx_nlt, wx_nle, wx_bz0, wx_bz1, if_pos, if_neg, wx_ite, Nat.reduceEqDiff, eq_self, if_true, if_false, not_true_eq_false, not_false_eq_true], h⟩
  obtain ⟨σ1, τ1, r1, s1, u1, v1, w1, x1, y1, z1, p1, q1⟩ := wl_num a0 (n := n) (by omega) d2 d3
  obtain ⟨σ2, τ2, r2, s2, u2, v2, w2, x2, y2, z2, p2, q2⟩ := wl_num a1 (n := n + 4) (by omega) w1 x1
  obtain ⟨σ3, τ3, r3, s3, u3, v3, w3, x3, y3, z3, p3, q3⟩ := wl_num a2 (n := n + 4 + 4) (by omega) w2 x2
  obtain ⟨σ4, τ4, r4, s4, u4, v4, w4, x4, y4, z4, p4, q4⟩ := wl_num a3 (n := n + 4 + 4 + 4) (by omega) w3 x3
  obtain ⟨σ5, τ5, r5, s5, u5, v5, w5, x5, y5, z5, p5, q5⟩ := wl_num a4 (n := n + 4 + 4 + 4 + 4) (by omega) w4 x4
  refine ⟨nI (n + 4 + 4 + 4 + 4 + 4), σ5, τ5, ?_, ?_, ?_⟩
  · simp -implicitDefEqProofs (disch := omega) only [e_X11_feed, e_X11_feed__1, e_X11_feed__2, e_X11_feed__3, e_X11_feed__4, e_X11_feed__5, e_X11_feed__6, e_X6_hasRoomFor, d2, e380, r1, r2, r3, r4, r5, w5, wx_bd, wx_let, wx_st, wx_lit, wx_ga, wx_sa, pk_mul, nI_add, wx_le, wx_lt, wx_eq, wx_en, wx_ne', wx_nn, wx_ltn, wx_len, wx_nlt, wx_nle, wx_bz0, wx_bz1, if_pos, if_neg, wx_ite, Nat.reduceEqDiff, eq_self, if_true, if_false, not_true_eq_false, not_false_eq_true]
  · simp -implicitDefEqProofs (disch := omega) only [e_X12_feed, e_X12_feed__1, e_X12_feed__2, e_X12_feed__3, e_X12_feed__4, e_X12_feed__5, e_X12_feed__6, d3, s1, s2, s3, s4, s5, x5, wx_bd, wx_let, wx_st, wx_lit, wx_ga, wx_sa, pk_mul, nI_add, wx_le, wx_lt, wx_eq, wx_en, wx_ne', wx_nn, wx_ltn, wx_len, wx_nlt, wx_nle, wx_bz0, wx_bz1, if_pos, if_neg, wx_ite, Nat.reduceEqDiff, eq_self, if_true, if_false, not_true_eq_false, not_false_eq_true]
  · refine wR_rd h (fun a g1 g2 => ?_) (fun a i _ g1 g2 => ?_) ⟨⟨n + 4 + 4 + 4 + 4 + 4, by omega, w5, x5, fun i hi => ?_⟩, ?_, ?_, fun i hi => ?_⟩
    · rw [u5 a g1 g2, u4 a g1 g2, u3 a g1 g2, u2 a g1 g2, u1 a g1 g2]
    · by_cases ca : a = 0
      · subst ca
        have g3 := g2 rfl
        rw [z5 i g3, z4 i g3, z3 i g3, z2 i g3, z1 i g3]
      · rw [v5 a ca g1, v4 a ca g1, v3 a ca g1, v2 a ca g1, v1 a ca g1]
    · rcases Nat.lt_or_ge i n with g | g
      · rw [(p5 i (by omega)).1, (p5 i (by omega)).2, (p4 i (by omega)).1, (p4 i (by omega)).2, (p3 i (by omega)).1, (p3 i (by omega)).2, (p2 i (by omega)).1, (p2 i (by omega)).2, (p1 i (by omega)).1, (p1 i (by omega)).2]
        exact d4 i g
      rcases Nat.lt_or_ge i (n + 4) with g | g
      · rw [(p5 i (by omega)).1, (p5 i (by omega)).2, (p4 i (by omega)).1, (p4 i (by omega)).2, (p3 i (by omega)).1, (p3 i (by omega)).2, (p2 i (by omega)).1, (p2 i (by omega)).2]
        exact q1 i (by omega) g
      rcases Nat.lt_or_ge i (n + 4 + 4) with g | g
      · rw [(p5 i (by omega)).1, (p5 i (by omega)).2, (p4 i (by omega)).1, (p4 i (by omega)).2, (p3 i (by omega)).1, (p3 i (by omega)).2]
        exact q2 i (by omega) g
      rcases Nat.lt_or_ge i (n + 4 + 4 + 4) with g | g
      · rw [(p5 i (by omega)).1, (p5 i (by omega)).2, (p4 i (by omega)).1, (p4 i (by omega)).2]
        exact q3 i (by omega) g
      rcases Nat.lt_or_ge i (n + 4 + 4 + 4 + 4) with g | g
      · rw [(p5 i (by omega)).1, (p5 i (by omega)).2]
        exact q4 i (by omega) g
      · exact q5 i (by omega) hi
    · rw [y5 8 (by omega), y4 8 (by omega), y3 8 (by omega), y2 8 (by omega), y1 8 (by omega), z5 35 (by omega), z4 35 (by omega), z3 35 (by omega), z2 35 (by omega), z1 35 (by omega)]; exact d5
    · rw [y5 9 (by omega), y4 9 (by omega), y3 9 (by omega), y2 9 (by omega), y1 9 (by omega), z5 36 (by omega), z4 36 (by omega), z3 36 (by omega), z2 36 (by omega), z1 36 (by omega)]; exact d6
    · rw [v5 10 (by omega) (by omega), v4 10 (by omega) (by omega), v3 10 (by omega) (by omega), v2 10 (by omega) (by omega), v1 10 (by omega) (by omega)]; exact d7 i hi

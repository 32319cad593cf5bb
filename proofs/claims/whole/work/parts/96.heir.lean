section HF
variable {σ t0 : wg_M} {nj w : Nat}
def wHI (nj w : Nat) (σ t0 t : wg_M) (G : Nat) (o : Option Nat) : Prop := (∀ a, a ≠ 1 → t a = t0 a) ∧ (∀ j, j < nj → σ 12 j = t 1 (3 + j)) ∧ (∀ j, j < nj → ((t 1 (23 + j) = nI 0 ∧ t 1 (13 + j) = nI 0) ↔ (σ 15 j = nI 0 ∧ σ 14 j = -nI 1 ∧ G.testBit j = false))) ∧ (∀ j, j < nj → (t 1 (13 + j) = nI (w + 1) ↔ o = some j)) ∧ ∀ j, o = some j → j < nj
set_option maxHeartbeats 1000000 in
theorem wk_add10 : ∀ S, S < 1024 → ∀ c, c < 10 → S ||| 2 ^ c < 1024 := fun S hS c hc => Nat.or_lt_two_pow (n := 10) hS (Nat.lt_of_lt_of_le (Nat.pow_lt_pow_right (by omega) hc) (Nat.le_refl _))
set_option maxHeartbeats 1000000 in
theorem wl_hd (hnj : nj ≤ 10) (hw : w < 8) (e5 : σ 11 5 = nI nj) (n5 : t0 0 7 = nI nj) (nT : t0 0 5 = nI 1) {G h : Nat} {t : wg_M} (hG : G < 1024) (hi : wHI nj w σ t0 t G (some h)) : ∃ t', f_X12_dies 0 (nI h) t = some (nI 0, t') ∧ ((f_X2_youngestBare 11 (nI G) σ = some (-nI 1, σ) ∧ wHI nj w σ t0 t' G none) ∨ ∃ b, b < nj ∧ f_X2_youngestBare 11 (nI G) σ = some (nI b, σ) ∧ wHI nj w σ t0 t' (G ||| 2 ^ b) (some b)) := by
  obtain ⟨i1, i2, i3, i4, i5⟩ := hi
  have hh := i5 h rfl
  have ew := (i4 h hh).mpr rfl
  have es : nI (w + 1) - nI 1 = nI w := pk_sub (by omega)
  have d1 : ¬ nI 1 = nI 0 := by decide
  have dw : ¬ nI (w + 1) = nI 0 := by rw [nI_eq (by omega) (by omega)]; omega
  have dw' : ¬ nI 0 = nI (w + 1) := fun e => dw e.symm
  have nw1 := wEn_ne hw
  obtain ⟨t1, ht1⟩ : ∃ t1, t1 = wg_u (wg_u t 1 (23 + h) (nI 1)) 1 (13 + h) (nI 0) := ⟨_, rfl⟩
  have u1 : ∀ a, a ≠ 1 → t1 a = t0 a := fun a ha => by rw [ht1, wx_un ha, wx_un ha]; exact i1 a ha
  have v23 : t1 1 (23 + h) = nI 1 := by rw [ht1]; simp -implicitDefEqProofs (disch := omega) only [wx_uk, wx_un, pk_us, pk_un]
  have v13 : t1 1 (13 + h) = nI 0 := by rw [ht1]; simp -implicitDefEqProofs (disch := omega) only [wx_uk, wx_un, pk_us, pk_un]
  have vo : ∀ x, x ≠ 23 + h → x ≠ 13 + h → t1 1 x = t 1 x := fun x q1 q2 => by rw [ht1]; simp -implicitDefEqProofs (disch := omega) only [wx_uk, wx_un, pk_us, pk_un]
  have m5 : t1 0 7 = nI nj := by rw [u1 0 (by omega)]; exact n5
  have mT : t1 0 5 = nI 1 := by rw [u1 0 (by omega)]; exact nT
  have A1 : ∀ j, j < nj → σ 12 j = t1 1 (3 + j) := fun j hj => by rw [vo _ (by omega) (by omega)]; exact i2 j hj
  have E1 : ∀ j, j < nj → ((t1 1 (23 + j) = nI 0 ∧ t1 1 (13 + j) = nI 0) ↔ (σ 15 j = nI 0 ∧ σ 14 j = -nI 1 ∧ G.testBit j = false)) := fun j hj => by
    by_cases c : j = h
    · subst c
      rw [v23]
      refine ⟨fun q => absurd q.1 d1, fun q => ?_⟩
      have := ((i3 j hj).mpr q).2
      rw [ew] at this
      exact absurd this dw
    · rw [vo _ (by omega) (by omega), vo _ (by omega) (by omega)]
      exact i3 j hj
  have W1 : ∀ j, j < nj → (t1 1 (13 + j) = nI (w + 1) ↔ none = some j) := fun j hj => by
    by_cases c : j = h
    · subst c
      rw [v13]
      exact ⟨fun q => absurd q dw', fun q => nomatch q⟩
    · rw [vo _ (by omega) (by omega), i4 j hj]
      exact ⟨fun q => absurd (Option.some.inj q).symm c, fun q => nomatch q⟩
  have wo := wl_wr hnj m5 hw W1 (fun j e => nomatch e)
  obtain ⟨r, r1, r2, r3⟩ := wl_yg hG hnj e5 m5 E1 A1 nj 0 wg_N wg_N (-nI 1) (by omega) (by rw [wx_N]; omega) (by rw [wx_N]; omega) (Or.inl rfl)
  have y1 : f_X2_youngestBare 11 (nI G) σ = some (r, σ) := by rw [e_X2_youngestBare]; exact r1
  have y2 : f_X12_youngest 0 t1 = some (r, t1) := by rw [e_X12_youngest]; exact r2
  rcases r3 with rfl | ⟨b, hb, ⟨b1, b2⟩, rfl⟩
  · refine ⟨t1, ?_, Or.inl ⟨y1, u1, A1, E1, W1, fun j e => nomatch e⟩⟩
    simp -implicitDefEqProofs (disch := omega) only [e_X12_dies, e_X12_dies__1, e_X12_dies__2, e_X12_dies__3, e_X12_dies__4, e_X12_dies__5, e_X12_dies__6, e_X12_dies__7, e_X12_dies__8, e_X12_wigOf, e_X12_wigOf__1, ew, es, wx_uk, wx_un, pk_us, pk_un, ← ht1, e_X12_notes, e_X12_notes__1, e_X12_notes__2, e_X12_notes__3, e_X12_notes__4, e_X12_notes__5, e_X12_notes__6, e_X12_notes__7, e_X12_notes__8, e_X12_notes__9, e_X12_notes__10, mT, nw1, y2, wx_bd, wx_let, wx_st, wx_lit, wx_ga, wx_sa, pk_mul, nI_add, wx_le, wx_lt, wx_eq, wx_en, wx_ne', wx_nn, wx_ltn, wx_len, wx_nlt, wx_nle, wx_bz0, wx_bz1, if_pos, if_neg, wx_ite, Nat.reduceEqDiff, eq_self, if_true, if_false, not_true_eq_false, not_false_eq_true]
  · have nb := wEn_ne (a := b)
    have nbm : ¬ nI b = -nI 1 := by
      intro e
      have := congrArg Int32.toInt e
      rw [nI_toInt (by omega), wx_neg_toInt (by omega)] at this
      omega
    obtain ⟨t2, ht2⟩ : ∃ t2, t2 = wg_u (wg_u t1 1 (13 + b) (nI (w + 1))) 1 (59 + w) (t1 1 (59 + w) + nI 1) := ⟨_, rfl⟩
    have x13 : t2 1 (13 + b) = nI (w + 1) := by rw [ht2]; simp -implicitDefEqProofs (disch := omega) only [wx_uk, wx_un, pk_us, pk_un]
    have xo : ∀ x, x ≠ 13 + b → x < 59 → t2 1 x = t1 1 x := fun x q1 q2 => by rw [ht2]; simp -implicitDefEqProofs (disch := omega) only [wx_uk, wx_un, pk_us, pk_un]
    have ux : ∀ a, a ≠ 1 → t2 a = t0 a := fun a ha => by rw [ht2, wx_un ha, wx_un ha]; exact u1 a ha
    have m5T : t2 0 5 = nI 1 := by rw [ux 0 (by omega)]; exact nT
    refine ⟨t2, ?_, Or.inr ⟨b, hb, y1, ux, fun j hj => by rw [xo _ (by omega) (by omega)]; exact A1 j hj, fun j hj => ?_, fun j hj => ?_, fun j e => by cases e; exact hb⟩⟩
    · have on : f_X12_isOn 0 (nI w) (nI b) t1 = some (nI 0, t2) := by
        simp -implicitDefEqProofs (disch := omega) only [e_X12_isOn, e_X12_isOn__1, e_X12_isOn__2, e_X12_isOn_21, e_X12_isOn_21__1, e_X12_isOn_21__2, e_X12_isOn_21__3, e_X12_isOn_21__4, wo, wEn, wx_uk, wx_un, pk_us, pk_un, ← ht2, e_X12_notes, e_X12_notes__1, e_X12_notes__2, e_X12_notes__3, e_X12_notes__4, e_X12_notes__5, e_X12_notes__6, e_X12_notes__7, e_X12_notes__8, e_X12_notes__9, e_X12_notes__10, m5T, wx_bd, wx_let, wx_st, wx_lit, wx_ga, wx_sa, pk_mul, nI_add, wx_le, wx_lt, wx_eq, wx_en, wx_ne', wx_nn, wx_ltn, wx_len, wx_nlt, wx_nle, wx_bz0, wx_bz1, if_pos, if_neg, wx_ite, Nat.reduceEqDiff, eq_self, if_true, if_false, not_true_eq_false, not_false_eq_true]
      simp -implicitDefEqProofs (disch := omega) only [e_X12_dies, e_X12_dies__1, e_X12_dies__2, e_X12_dies__3, e_X12_dies__4, e_X12_dies__5, e_X12_dies__6, e_X12_dies__7, e_X12_dies__8, e_X12_wigOf, e_X12_wigOf__1, ew, es, wx_uk, wx_un, pk_us, pk_un, ← ht1, e_X12_notes, e_X12_notes__1, e_X12_notes__2, e_X12_notes__3, e_X12_notes__4, e_X12_notes__5, e_X12_notes__6, e_X12_notes__7, e_X12_notes__8, e_X12_notes__9, e_X12_notes__10, mT, nw1, y2, nbm, on, wx_bd, wx_let, wx_st, wx_lit, wx_ga, wx_sa, pk_mul, nI_add, wx_le, wx_lt, wx_eq, wx_en, wx_ne', wx_nn, wx_ltn, wx_len, wx_nlt, wx_nle, wx_bz0, wx_bz1, if_pos, if_neg, wx_ite, Nat.reduceEqDiff, eq_self, if_true, if_false, not_true_eq_false, not_false_eq_true]
    · rw [wk_or]
      by_cases c : j = b
      · subst c
        rw [x13]
        exact ⟨fun q => absurd q.2 dw, fun q => by simp at q⟩
      · rw [xo _ (by omega) (by omega), xo _ (by omega) (by omega), E1 j hj]
        have : ¬ b = j := fun e => c e.symm
        simp [this]
    · by_cases c : j = b
      · subst c
        exact ⟨fun _ => rfl, fun _ => x13⟩
      · rw [xo _ (by omega) (by omega), W1 j hj]
        exact ⟨fun q => (nomatch q), fun q => absurd (Option.some.inj q).symm c⟩
set_option maxHeartbeats 1000000 in
theorem wl_h70 (hnj : nj ≤ 10) (hw : w < 8) (n5 : t0 0 7 = nI nj) {G : Nat} {o : Option Nat} {t s : wg_M} (hi : wHI nj w σ t0 t G o) (hs : f_X12_endsThought 0 t = some (nI 0, s)) : f_X12_heir_70 0 (nI w) t = some (wEn o, s) := by
  obtain ⟨i1, i2, i3, i4, i5⟩ := hi
  have wo := wl_wr hnj (by rw [i1 0 (by omega)]; exact n5) hw i4 i5
  simp -implicitDefEqProofs (disch := omega) only [e_X12_heir_70, e_X12_heir_70__1, e_X12_heir_70__2, wo, hs, wx_bd, wx_let, wx_st, wx_lit, wx_ga, wx_sa, pk_mul, nI_add, wx_le, wx_lt, wx_eq, wx_en, wx_ne', wx_nn, wx_ltn, wx_len, wx_nlt, wx_nle, wx_bz0, wx_bz1, if_pos, if_neg, wx_ite, Nat.reduceEqDiff, eq_self, if_true, if_false, not_true_eq_false, not_false_eq_true]
set_option maxHeartbeats 1000000 in
theorem wl_heir_l (hnj : nj ≤ 10) (hw : w < 8) (e5 : σ 11 5 = nI nj) (n5 : t0 0 7 = nI nj) (nT : t0 0 5 = nI 1) {N : Nat} (hN : N ≤ 9) : ∀ d i n m G h x t, i + d = N → d < n → d + 1 < m → G < 1024 → wHI nj w σ t0 t G (some h) → (d = 0 → x = nI h) → ∃ r t', f_X7_heirOf_31 n (nI N) 11 (nI G) x (nI i) σ = some (r, σ) ∧ (∀ s, f_X12_endsThought 0 t' = some (nI 0, s) → f_X12_heir_41 m 0 (nI w) (nI N) (nI i) t = some (r, s)) ∧ ∀ a, a ≠ 1 → t' a = t0 a := by
  intro d
  induction d with
  | zero =>
    intro i n m G h x t hi hn hm hG hI hx
    obtain ⟨n, rfl⟩ : ∃ k, n = k + 1 := ⟨n - 1, by omega⟩
    obtain ⟨m, rfl⟩ : ∃ k, m = k + 1 := ⟨m - 1, by omega⟩
    refine ⟨nI h, t, ?_, fun s hs => ?_, hI.1⟩
    · rw [hx rfl]
      simp -implicitDefEqProofs (disch := omega) only [e_X7_heirOf_31, e_X7_heirOf_31__1, e_X7_heirOf_31__2, e_X7_heirOf_31__3, wx_bd, wx_let, wx_st, wx_lit, wx_ga, wx_sa, pk_mul, nI_add, wx_le, wx_lt, wx_eq, wx_en, wx_ne', wx_nn, wx_ltn, wx_len, wx_nlt, wx_nle, wx_bz0, wx_bz1, if_pos, if_neg, wx_ite, Nat.reduceEqDiff, eq_self, if_true, if_false, not_true_eq_false, not_false_eq_true]
    · simp -implicitDefEqProofs (disch := omega) only [e_X12_heir_41, e_X12_heir_41__1, e_X12_heir_41__2, e_X12_heir_41__3, e_X12_heir_41__4, wx_bd, wx_let, wx_st, wx_lit, wx_ga, wx_sa, pk_mul, nI_add, wx_le, wx_lt, wx_eq, wx_en, wx_ne', wx_nn, wx_ltn, wx_len, wx_nlt, wx_nle, wx_bz0, wx_bz1, if_pos, if_neg, wx_ite, Nat.reduceEqDiff, eq_self, if_true, if_false, not_true_eq_false, not_false_eq_true]
      exact wl_h70 hnj hw n5 hI hs
  | succ d ih =>
    intro i n m G h x t hi hn hm hG hI hx
    obtain ⟨n, rfl⟩ : ∃ k, n = k + 1 := ⟨n - 1, by omega⟩
    obtain ⟨m, rfl⟩ : ∃ k, m = k + 1 := ⟨m - 1, by omega⟩
    obtain ⟨t', k1, k2⟩ := wl_hd hnj hw e5 n5 nT hG hI
    have hh := hI.2.2.2.2 h rfl
    have wo := wl_wr hnj (by rw [hI.1 0 (by omega)]; exact n5) hw hI.2.2.2.1 hI.2.2.2.2
    simp only [wEn] at wo
    have nhm : ¬ nI h = -nI 1 := by
      intro e
      have := congrArg Int32.toInt e
      rw [nI_toInt (by omega), wx_neg_toInt (by omega)] at this
      omega
    rcases k2 with ⟨y, I2⟩ | ⟨b, hb, y, I2⟩
    · have wo2 := wl_wr hnj (by rw [I2.1 0 (by omega)]; exact n5) hw I2.2.2.2.1 I2.2.2.2.2
      simp only [wEn] at wo2
      refine ⟨-nI 1, t', ?_, fun s hs => ?_, I2.1⟩
      · simp -implicitDefEqProofs (disch := omega) only [e_X7_heirOf_31, e_X7_heirOf_31__1, e_X7_heirOf_31__2, e_X7_heirOf_31__3, y, wx_bd, wx_let, wx_st, wx_lit, wx_ga, wx_sa, pk_mul, nI_add, wx_le, wx_lt, wx_eq, wx_en, wx_ne', wx_nn, wx_ltn, wx_len, wx_nlt, wx_nle, wx_bz0, wx_bz1, if_pos, if_neg, wx_ite, Nat.reduceEqDiff, eq_self, if_true, if_false, not_true_eq_false, not_false_eq_true]
      · have h70 := wl_h70 hnj hw n5 I2 hs
        simp only [wEn] at h70
        simp -implicitDefEqProofs (disch := omega) only [e_X12_heir_41, e_X12_heir_41__1, e_X12_heir_41__2, e_X12_heir_41__3, e_X12_heir_41__4, wo, nhm, k1, wx_bd, wx_let, wx_st, wx_lit, wx_ga, wx_sa, pk_mul, nI_add, wx_le, wx_lt, wx_eq, wx_en, wx_ne', wx_nn, wx_ltn, wx_len, wx_nlt, wx_nle, wx_bz0, wx_bz1, if_pos, if_neg, wx_ite, Nat.reduceEqDiff, eq_self, if_true, if_false, not_true_eq_false, not_false_eq_true]
        obtain ⟨m, rfl⟩ : ∃ k, m = k + 1 := ⟨m - 1, by omega⟩
        by_cases c : N ≤ i + 1
        · simp -implicitDefEqProofs (disch := omega) only [e_X12_heir_41, e_X12_heir_41__1, e_X12_heir_41__2, e_X12_heir_41__3, e_X12_heir_41__4, h70, wx_bd, wx_let, wx_st, wx_lit, wx_ga, wx_sa, pk_mul, nI_add, wx_le, wx_lt, wx_eq, wx_en, wx_ne', wx_nn, wx_ltn, wx_len, wx_nlt, wx_nle, wx_bz0, wx_bz1, if_pos, if_neg, wx_ite, Nat.reduceEqDiff, eq_self, if_true, if_false, not_true_eq_false, not_false_eq_true]
        · simp -implicitDefEqProofs (disch := omega) only [e_X12_heir_41, e_X12_heir_41__1, e_X12_heir_41__2, e_X12_heir_41__3, e_X12_heir_41__4, wo2, h70, wx_bd, wx_let, wx_st, wx_lit, wx_ga, wx_sa, pk_mul, nI_add, wx_le, wx_lt, wx_eq, wx_en, wx_ne', wx_nn, wx_ltn, wx_len, wx_nlt, wx_nle, wx_bz0, wx_bz1, if_pos, if_neg, wx_ite, Nat.reduceEqDiff, eq_self, if_true, if_false, not_true_eq_false, not_false_eq_true]
    · have nbm : ¬ nI b = -nI 1 := by
        intro e
        have := congrArg Int32.toInt e
        rw [nI_toInt (by omega), wx_neg_toInt (by omega)] at this
        omega
      have hG2 := wk_add10 G hG b (by omega)
      have es := wx_shl b (by omega)
      have h2b : 2 ^ b ≤ 2 ^ 10 := Nat.pow_le_pow_right (by omega) (by omega)
      obtain ⟨r, t2, r1, r2, r3⟩ := ih (i + 1) n m (G ||| 2 ^ b) b (nI b) t' (by omega) (by omega) (by omega) hG2 I2 (fun _ => rfl)
      refine ⟨r, t2, ?_, fun s hs => ?_, r3⟩
      · simp -implicitDefEqProofs (disch := omega) only [e_X7_heirOf_31, e_X7_heirOf_31__1, e_X7_heirOf_31__2, e_X7_heirOf_31__3, y, nbm, es, fa_or, wx_bd, wx_let, wx_st, wx_lit, wx_ga, wx_sa, pk_mul, nI_add, wx_le, wx_lt, wx_eq, wx_en, wx_ne', wx_nn, wx_ltn, wx_len, wx_nlt, wx_nle, wx_bz0, wx_bz1, if_pos, if_neg, wx_ite, Nat.reduceEqDiff, eq_self, if_true, if_false, not_true_eq_false, not_false_eq_true]
        exact r1
      · simp -implicitDefEqProofs (disch := omega) only [e_X12_heir_41, e_X12_heir_41__1, e_X12_heir_41__2, e_X12_heir_41__3, e_X12_heir_41__4, wo, nhm, k1, wx_bd, wx_let, wx_st, wx_lit, wx_ga, wx_sa, pk_mul, nI_add, wx_le, wx_lt, wx_eq, wx_en, wx_ne', wx_nn, wx_ltn, wx_len, wx_nlt, wx_nle, wx_bz0, wx_bz1, if_pos, if_neg, wx_ite, Nat.reduceEqDiff, eq_self, if_true, if_false, not_true_eq_false, not_false_eq_true]
        exact r2 s hs
end HF

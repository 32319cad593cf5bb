section KP
variable {M : Nat} {TS TV TF : Nat → Nat} {RM : Nat → wg_M → Prop} {nw : Nat}
set_option maxHeartbeats 1000000 in
theorem wl_knL (hO : wTo M TS TV) (hI : wTi M TS TV TF RM) (hw8 : nw ≤ 8) : ∀ d j n σ τ f g, M ≤ j + d → d < f → d < g → n ≤ 16 → wTc M TS TV TF j σ → RM j τ → σ 274 4 = nI n → σ 2 8 = nI nw → τ 0 6 = nI nw → wKl n σ τ → (∃ m σ' τ', m ≤ 16 ∧ f_X6_readLines_10 f 260 (nI 3) (nI n) σ = f_X6_readLines_59 260 (nI 3) σ' ∧ f_X12_readKin_26 g 0 (nI n) τ = some (nI m, τ') ∧ σ' 274 4 = nI m ∧ wKl m σ' τ' ∧ wFx pN σ σ' ∧ wFx qN τ τ') ∨ (∃ σ' τ', f_X6_readLines_10 f 260 (nI 3) (nI n) σ = some (nI 0, σ') ∧ f_X12_readKin_26 g 0 (nI n) τ = some (-nI 1, τ') ∧ wE pN qN σ τ σ' τ') := by
  obtain ⟨hM, hM0, hv⟩ := id hO
  have n10 : ¬ nI 1 = nI 0 := by decide
  have n01 : ¬ nI 0 = -nI 1 := by decide
  intro d
  induction d with
  | zero =>
    intro j n σ τ f g hd hf hg hn hc hm h4 s28 t6 hl
    obtain ⟨f, rfl⟩ : ∃ x, f = x + 1 := ⟨f - 1, by omega⟩
    obtain ⟨g, rfl⟩ : ∃ x, g = x + 1 := ⟨g - 1, by omega⟩
    obtain ⟨jM, h6, h7, hk'⟩ := id hc
    obtain ⟨k1, k2, k3⟩ := hk' j jM
    obtain ⟨r1, r2, r3⟩ := hI.1 j τ hm
    obtain rfl : j = M := by omega
    have w20 := wl_wd0 (c := 20) hO jM (by omega) r1 r2 (by omega)
    rw [hM0] at k1 r1
    have k1 : σ 262 j = nI 1 := k1
    exact Or.inl ⟨n, σ, τ, hn, by simp -implicitDefEqProofs (disch := omega) only [e_X6_readLines_10, e_X6_readLines_10__1, e_X6_readLines_10__2, e_X6_readLines_10__3, h7, k1, wx_bd, wx_let, wx_st, wx_lit, wx_ga, wx_sa, pk_mul, nI_add, wx_le, wx_lt, wx_eq, wx_en, wx_ne', wx_nn, wx_ltn, wx_len, wx_nlt, wx_nle, wx_bz0, wx_bz1, if_pos, if_neg, wx_ite, Nat.reduceEqDiff, eq_self, if_true, if_false, not_true_eq_false, not_false_eq_true], by simp -implicitDefEqProofs (disch := omega) only [e_X12_readKin_26, e_X12_readKin_26__1, e_X12_readKin_26__2, e_X12_readKin_26__3, e_X12_readKin_26__4, e_X12_readKin_26__5, w20, r1, wx_bd, wx_let, wx_st, wx_lit, wx_ga, wx_sa, pk_mul, nI_add, wx_le, wx_lt, wx_eq, wx_en, wx_ne', wx_nn, wx_ltn, wx_len, wx_nlt, wx_nle, wx_bz0, wx_bz1, if_pos, if_neg, wx_ite, Nat.reduceEqDiff, eq_self, if_true, if_false, not_true_eq_false, not_false_eq_true], h4, hl, wFx_r _ _, wFx_r _ _⟩
  | succ d ih =>
    intro j n σ τ f g hd hf hg hn hc hm h4 s28 t6 hl
    obtain ⟨f, rfl⟩ : ∃ x, f = x + 1 := ⟨f - 1, by omega⟩
    obtain ⟨g, rfl⟩ : ∃ x, g = x + 1 := ⟨g - 1, by omega⟩
    obtain ⟨jM, h6, h7, hk'⟩ := id hc
    obtain ⟨k1, k2, k3⟩ := hk' j jM
    obtain ⟨r1, r2, r3⟩ := hI.1 j τ hm
    have hvj := hv j jM
    have kl := wKd_lt hvj
    by_cases c0 : TS j = 0
    · have w20 := wl_wd0 (c := 20) hO jM (by omega) r1 r2 (by omega)
      rw [(wKd_e hvj).2 c0] at k1
      rw [c0] at r1
      exact Or.inl ⟨n, σ, τ, hn, by simp -implicitDefEqProofs (disch := omega) only [e_X6_readLines_10, e_X6_readLines_10__1, e_X6_readLines_10__2, e_X6_readLines_10__3, h7, k1, wx_bd, wx_let, wx_st, wx_lit, wx_ga, wx_sa, pk_mul, nI_add, wx_le, wx_lt, wx_eq, wx_en, wx_ne', wx_nn, wx_ltn, wx_len, wx_nlt, wx_nle, wx_bz0, wx_bz1, if_pos, if_neg, wx_ite, Nat.reduceEqDiff, eq_self, if_true, if_false, not_true_eq_false, not_false_eq_true], by simp -implicitDefEqProofs (disch := omega) only [e_X12_readKin_26, e_X12_readKin_26__1, e_X12_readKin_26__2, e_X12_readKin_26__3, e_X12_readKin_26__4, e_X12_readKin_26__5, w20, r1, wx_bd, wx_let, wx_st, wx_lit, wx_ga, wx_sa, pk_mul, nI_add, wx_le, wx_lt, wx_eq, wx_en, wx_ne', wx_nn, wx_ltn, wx_len, wx_nlt, wx_nle, wx_bz0, wx_bz1, if_pos, if_neg, wx_ite, Nat.reduceEqDiff, eq_self, if_true, if_false, not_true_eq_false, not_false_eq_true], h4, hl, wFx_r _ _, wFx_r _ _⟩
    · have ke : wKd (TS j) (TV j) ≠ 1 := fun q => c0 ((wKd_e hvj).1 q)
      have eC : ∀ v s, f_X6_readKinLine 260 σ = some (v, s) → f_X6_readLines_10 (f + 1) 260 (nI 3) (nI n) σ = if v = nI 0 then some (nI 0, s) else f_X6_readLines_10 f 260 (nI 3) (nI (n + 1)) s := fun v s e => by
        generalize wKd (TS j) (TV j) = K at *
        simp -implicitDefEqProofs (disch := omega) only [e_X6_readLines_10, e_X6_readLines_10__1, e_X6_readLines_10__2, e_X6_readLines_10__3, e_X6_readLines_46, e_X6_readLines_46__1, h7, k1, e, wx_bd, wx_let, wx_st, wx_lit, wx_ga, wx_sa, pk_mul, nI_add, wx_le, wx_lt, wx_eq, wx_en, wx_ne', wx_nn, wx_ltn, wx_len, wx_nlt, wx_nle, wx_bz0, wx_bz1, if_pos, if_neg, wx_ite, Nat.reduceEqDiff, eq_self, if_true, if_false, not_true_eq_false, not_false_eq_true]
      by_cases cw : TS j = 2 ∧ TV j = 20
      · have w20 := wl_wd1 r1 r2 cw
        by_cases k16 : n = 16
        · subst k16
          have fl := wl_fail hO hc (nI 3)
          have er := wl_errs (TF := TF) (j := j) r3 (nI 3)
          have k1' : σ 262 j = nI 276 := by rw [k1, (wKd_w hvj (r := 20) (by omega)).2 cw]; rfl
          have pl : f_X6_readKinLine 260 σ = some (nI 0, wg_u (wg_u σ 260 8 (nI 3)) 260 9 (nI (TF j))) := by
            simp -implicitDefEqProofs (disch := omega) only [e_X6_readKinLine, e_X6_readKinLine__1, e_X6_readKinLine__2, e_X6_readKinLine__3, e_X6_readKinLine__4, e_X6_readKinLine__5, e_X6_readKinLine__6, e_X6_expectFirst, e_X6_expectFirst__1, e_X6_expectFirst__2, h4, h7, k1', fl, wx_bd, wx_let, wx_st, wx_lit, wx_ga, wx_sa, pk_mul, nI_add, wx_le, wx_lt, wx_eq, wx_en, wx_ne', wx_nn, wx_ltn, wx_len, wx_nlt, wx_nle, wx_bz0, wx_bz1, if_pos, if_neg, wx_ite, Nat.reduceEqDiff, eq_self, if_true, if_false, not_true_eq_false, not_false_eq_true]
          exact Or.inr ⟨_, _, by rw [eC _ _ pl]; rfl, by simp -implicitDefEqProofs (disch := omega) only [e_X12_readKin_26, e_X12_readKin_26__1, e_X12_readKin_26__2, e_X12_readKin_26__3, e_X12_readKin_26__4, e_X12_readKin_26__5, w20, er, wx_bd, wx_let, wx_st, wx_lit, wx_ga, wx_sa, pk_mul, nI_add, wx_le, wx_lt, wx_eq, wx_en, wx_ne', wx_nn, wx_ltn, wx_len, wx_nlt, wx_nle, wx_bz0, wx_bz1, if_pos, if_neg, wx_ite, Nat.reduceEqDiff, eq_self, if_true, if_false, not_true_eq_false, not_false_eq_true], wE_mk (wFx_r _ _) (wFx_r _ _) rfl rfl rfl rfl (nI 3) (nI (TF j))⟩
        · rcases wl_knl hO hI (show n < 16 by omega) hw8 hc hm h4 s28 t6 hl cw with ⟨σ', τ', j', a1, a2, a3, a4, a5, a6, a7, a8, a9⟩ | ⟨σ', τ', a1, a2, a3⟩
          · have e1 : f_X6_readLines_10 (f + 1) 260 (nI 3) (nI n) σ = f_X6_readLines_10 f 260 (nI 3) (nI (n + 1)) σ' := by
              rw [eC _ _ a1]
              simp only [n10, if_false]
            have e2 : f_X12_readKin_26 (g + 1) 0 (nI n) τ = f_X12_readKin_26 g 0 (nI (n + 1)) τ' := by
              simp -implicitDefEqProofs (disch := omega) only [e_X12_readKin_26, e_X12_readKin_26__1, e_X12_readKin_26__2, e_X12_readKin_26__3, e_X12_readKin_26__4, e_X12_readKin_26__5, w20, a2, wx_bd, wx_let, wx_st, wx_lit, wx_ga, wx_sa, pk_mul, nI_add, wx_le, wx_lt, wx_eq, wx_en, wx_ne', wx_nn, wx_ltn, wx_len, wx_nlt, wx_nle, wx_bz0, wx_bz1, if_pos, if_neg, wx_ite, Nat.reduceEqDiff, eq_self, if_true, if_false, not_true_eq_false, not_false_eq_true]
            rw [e1, e2]
            rcases ih j' (n + 1) σ' τ' f g (by omega) (by omega) (by omega) (by omega) a3 a4 a6 (by rw [a8 2 8 rfl]; exact s28) (by rw [a9 0 6 rfl]; exact t6) a7 with ⟨m, σ2, τ2, b1, b2, b3, b4, b5, b6, b7⟩ | ⟨σ2, τ2, b1, b2, b3⟩
            · exact Or.inl ⟨m, σ2, τ2, b1, b2, b3, b4, b5, wFx_t (wFx_m pIN a8) b6, wFx_t (wFx_m qEN a9) b7⟩
            · exact Or.inr ⟨σ2, τ2, b1, b2, wE_t (wFx_m pIN a8) (wFx_m qEN a9) b3⟩
          · exact Or.inr ⟨σ', τ', by rw [eC _ _ a1]; rfl, by simp -implicitDefEqProofs (disch := omega) only [e_X12_readKin_26, e_X12_readKin_26__1, e_X12_readKin_26__2, e_X12_readKin_26__3, e_X12_readKin_26__4, e_X12_readKin_26__5, w20, a2, wx_bd, wx_let, wx_st, wx_lit, wx_ga, wx_sa, pk_mul, nI_add, wx_le, wx_lt, wx_eq, wx_en, wx_ne', wx_nn, wx_ltn, wx_len, wx_nlt, wx_nle, wx_bz0, wx_bz1, if_pos, if_neg, wx_ite, Nat.reduceEqDiff, eq_self, if_true, if_false, not_true_eq_false, not_false_eq_true], wFx_m (wU8_m pIN) a3.1, wFx_m qEN a3.2.1, a3.2.2⟩
      · have w20 := wl_wd0 (c := 20) hO jM (by omega) r1 r2 cw
        have er := wl_errs (TF := TF) (j := j) r3 (nI 1)
        have kn : wKd (TS j) (TV j) ≠ 276 := fun q => cw ((wKd_w hvj (r := 20) (by omega)).1 q)
        have ex := wl_exp0 hO hc (show 276 < 300 by omega) kn
        have ts : TS j < 100 := by unfold wTv at hvj; omega
        have pl : f_X6_readKinLine 260 σ = some (nI 0, wg_u (wg_u σ 260 8 (nI 1)) 260 9 (nI (TF j))) := by
          clear eC
          generalize wKd (TS j) (TV j) = K at *
          simp -implicitDefEqProofs (disch := omega) only [e_X6_readKinLine, e_X6_readKinLine__1, e_X6_readKinLine__2, e_X6_readKinLine__3, e_X6_readKinLine__4, e_X6_readKinLine__5, e_X6_readKinLine__6, e_X6_expectFirst, e_X6_expectFirst__1, e_X6_expectFirst__2, e_X6_expectFirst_25, e_X6_expectFirst_25__1, h4, h7, k1, ex, wx_bd, wx_let, wx_st, wx_lit, wx_ga, wx_sa, pk_mul, nI_add, wx_le, wx_lt, wx_eq, wx_en, wx_ne', wx_nn, wx_ltn, wx_len, wx_nlt, wx_nle, wx_bz0, wx_bz1, if_pos, if_neg, wx_ite, Nat.reduceEqDiff, eq_self, if_true, if_false, not_true_eq_false, not_false_eq_true]
        exact Or.inr ⟨_, _, by rw [eC _ _ pl]; rfl, by simp -implicitDefEqProofs (disch := omega) only [e_X12_readKin_26, e_X12_readKin_26__1, e_X12_readKin_26__2, e_X12_readKin_26__3, e_X12_readKin_26__4, e_X12_readKin_26__5, w20, r1, er, wx_bd, wx_let, wx_st, wx_lit, wx_ga, wx_sa, pk_mul, nI_add, wx_le, wx_lt, wx_eq, wx_en, wx_ne', wx_nn, wx_ltn, wx_len, wx_nlt, wx_nle, wx_bz0, wx_bz1, if_pos, if_neg, wx_ite, Nat.reduceEqDiff, eq_self, if_true, if_false, not_true_eq_false, not_false_eq_true], wE_mk (wFx_r _ _) (wFx_r _ _) rfl rfl rfl rfl (nI 1) (nI (TF j))⟩
end KP
set_option maxHeartbeats 1000000 in
theorem wl_kn2 : ∀ d k f τ, k + d = 8 → d < f → ∃ τ', f_X12_readKin_2 f 0 (nI k) τ = f_X12_readKin_26 wg_N 0 (nI 0) τ' ∧ (∀ w, k ≤ w → w < 8 → τ' 21 (8 + w) = nI 0) ∧ ∀ b i, ¬ (b = 21 ∧ 8 + k ≤ i ∧ i < 16) → τ' b i = τ b i := by
  intro d
  induction d with
  | zero =>
    intro k f τ hk hf
    obtain ⟨f, rfl⟩ : ∃ x, f = x + 1 := ⟨f - 1, by omega⟩
    exact ⟨τ, by simp -implicitDefEqProofs (disch := omega) only [e_X12_readKin_2, e_X12_readKin_2__1, e_X12_readKin_2__2, wx_bd, wx_let, wx_st, wx_lit, wx_ga, wx_sa, pk_mul, nI_add, wx_le, wx_lt, wx_eq, wx_en, wx_ne', wx_nn, wx_ltn, wx_len, wx_nlt, wx_nle, wx_bz0, wx_bz1, if_pos, if_neg, wx_ite, Nat.reduceEqDiff, eq_self, if_true, if_false, not_true_eq_false, not_false_eq_true], fun i _ _ => by omega, fun _ _ _ => rfl⟩
  | succ d ih =>
    intro k f τ hk hf
    obtain ⟨f, rfl⟩ : ∃ x, f = x + 1 := ⟨f - 1, by omega⟩
    obtain ⟨τ', g1, g2, g3⟩ := ih (k + 1) f (wg_u τ 21 (8 + k) (nI 0)) (by omega) (by omega)
    refine ⟨τ', ?_, fun w i1 i2 => ?_, fun b i q => ?_⟩
    · simp -implicitDefEqProofs (disch := omega) only [e_X12_readKin_2, e_X12_readKin_2__1, e_X12_readKin_2__2, wx_bd, wx_let, wx_st, wx_lit, wx_ga, wx_sa, pk_mul, nI_add, wx_le, wx_lt, wx_eq, wx_en, wx_ne', wx_nn, wx_ltn, wx_len, wx_nlt, wx_nle, wx_bz0, wx_bz1, if_pos, if_neg, wx_ite, Nat.reduceEqDiff, eq_self, if_true, if_false, not_true_eq_false, not_false_eq_true]
      exact g1
    · by_cases e : w = k
      · subst e
        rw [g3 21 (8 + w) (by omega), wx_uk, pk_us]
      · exact g2 w (by omega) i2
    · rw [g3 b i (by omega), wx_ur, if_neg (by omega)]

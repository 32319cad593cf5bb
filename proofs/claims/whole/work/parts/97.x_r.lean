section LP
variable {M : Nat} {TS TV TF : Nat → Nat} {RM : Nat → wg_M → Prop} {nw nj : Nat}
set_option maxHeartbeats 1000000 in
theorem wLv4_fr {l n : Nat} {σ τ σ' τ' : wg_M} (hl : l ≠ n) (hσ : wFx (pI n) σ σ') (hτ : wFx (qB n) τ τ') (h : wLv4 nw nj l σ τ) : wLv4 nw nj l σ' τ' := by
  have p1 := hσ 275 l (by simp [pI, pS, hl])
  have p2 := hσ 276 l (by simp [pI, pS, hl])
  have p3 := hσ 277 l (by simp [pI, pS, hl])
  have p4 := hσ 278 l (by simp [pI, pS, hl])
  have q : ∀ r, r < 4 → τ' 20 (64 + 4 * l + r) = τ 20 (64 + 4 * l + r) := fun r hr => hτ 20 _ (by
    simp only [qB, qS, Bool.or_eq_false_iff, Bool.and_eq_false_iff, beq_eq_false_iff_ne, decide_eq_false_iff_not]
    omega)
  have q0 := q 0 (by omega)
  have q1 := q 1 (by omega)
  have q2 := q 2 (by omega)
  have q3 := q 3 (by omega)
  rw [Nat.add_zero] at q0
  unfold wLv4
  rw [p1, p2, p3, p4, q0, q1, q2, q3]
  exact h
set_option maxHeartbeats 1000000 in
theorem wl_loL (hO : wTo M TS TV) (hI : wTi M TS TV TF RM) (hjc : nw ≤ 8 ∧ nj ≤ 10) : ∀ d j n σ τ f g, M ≤ j + d → d < f → d < g → n ≤ 16 → wTc M TS TV TF j σ → RM j τ → σ 274 4 = nI n → σ 2 8 = nI nw → σ 11 5 = nI nj → τ 0 6 = nI nw → τ 0 7 = nI nj → (∀ l, l < n → wLv4 nw nj l σ τ) → (∃ m σ' τ', m ≤ 16 ∧ f_X6_readLines_10 f 260 (nI 2) (nI n) σ = f_X6_readLines_59 260 (nI 2) σ' ∧ f_X12_readLoans_2 g 0 (nI n) τ = some (nI m, τ') ∧ σ' 274 4 = nI m ∧ (∀ l, l < m → wLv4 nw nj l σ' τ') ∧ wFx pN σ σ' ∧ wFx qN τ τ') ∨ (∃ σ' τ', f_X6_readLines_10 f 260 (nI 2) (nI n) σ = some (nI 0, σ') ∧ f_X12_readLoans_2 g 0 (nI n) τ = some (-nI 1, τ') ∧ wE pN qN σ τ σ' τ') := by
  obtain ⟨hM, hM0, hv⟩ := id hO
  have n10 : ¬ nI 1 = nI 0 := by decide
  have n01 : ¬ nI 0 = -nI 1 := by decide
  intro d
  induction d with
  | zero =>
    intro j n σ τ f g hd hf hg hn hc hm h4 s28 s115 t6 t7 hl
    obtain ⟨f, rfl⟩ : ∃ x, f = x + 1 := ⟨f - 1, by omega⟩
    obtain ⟨g, rfl⟩ : ∃ x, g = x + 1 := ⟨g - 1, by omega⟩
    obtain ⟨jM, h6, h7, hk'⟩ := id hc
    obtain ⟨k1, k2, k3⟩ := hk' j jM
    obtain ⟨r1, r2, r3⟩ := hI.1 j τ hm
    obtain rfl : j = M := by omega
    have w17 := wl_wd0 (c := 17) hO jM (by omega) r1 r2 (by omega)
    rw [hM0] at k1 r1
    have k1 : σ 262 j = nI 1 := k1
    exact Or.inl ⟨n, σ, τ, hn, by simp -implicitDefEqProofs (disch := omega) only [e_X6_readLines_10, e_X6_readLines_10__1, e_X6_readLines_10__2, e_X6_readLines_10__3, h7, k1, wx_bd, wx_let, wx_st, wx_lit, wx_ga, wx_sa, pk_mul, nI_add, wx_le, wx_lt, wx_eq, wx_en, wx_ne', wx_nn, wx_ltn, wx_len, wx_nlt, wx_nle, wx_bz0, wx_bz1, if_pos, if_neg, wx_ite, Nat.reduceEqDiff, eq_self, if_true, if_false, not_true_eq_false, not_false_eq_true], by simp -implicitDefEqProofs (disch := omega) only [e_X12_readLoans_2, e_X12_readLoans_2__1, e_X12_readLoans_2__2, e_X12_readLoans_2__3, e_X12_readLoans_2__4, e_X12_readLoans_2__5, w17, r1, wx_bd, wx_let, wx_st, wx_lit, wx_ga, wx_sa, pk_mul, nI_add, wx_le, wx_lt, wx_eq, wx_en, wx_ne', wx_nn, wx_ltn, wx_len, wx_nlt, wx_nle, wx_bz0, wx_bz1, if_pos, if_neg, wx_ite, Nat.reduceEqDiff, eq_self, if_true, if_false, not_true_eq_false, not_false_eq_true], h4, hl, wFx_r _ _, wFx_r _ _⟩
  | succ d ih =>
    intro j n σ τ f g hd hf hg hn hc hm h4 s28 s115 t6 t7 hl
    obtain ⟨f, rfl⟩ : ∃ x, f = x + 1 := ⟨f - 1, by omega⟩
    obtain ⟨g, rfl⟩ : ∃ x, g = x + 1 := ⟨g - 1, by omega⟩
    obtain ⟨jM, h6, h7, hk'⟩ := id hc
    obtain ⟨k1, k2, k3⟩ := hk' j jM
    obtain ⟨r1, r2, r3⟩ := hI.1 j τ hm
    have hvj := hv j jM
    have kl := wKd_lt hvj
    by_cases c0 : TS j = 0
    · have w17 := wl_wd0 (c := 17) hO jM (by omega) r1 r2 (by omega)
      rw [(wKd_e hvj).2 c0] at k1
      rw [c0] at r1
      exact Or.inl ⟨n, σ, τ, hn, by simp -implicitDefEqProofs (disch := omega) only [e_X6_readLines_10, e_X6_readLines_10__1, e_X6_readLines_10__2, e_X6_readLines_10__3, h7, k1, wx_bd, wx_let, wx_st, wx_lit, wx_ga, wx_sa, pk_mul, nI_add, wx_le, wx_lt, wx_eq, wx_en, wx_ne', wx_nn, wx_ltn, wx_len, wx_nlt, wx_nle, wx_bz0, wx_bz1, if_pos, if_neg, wx_ite, Nat.reduceEqDiff, eq_self, if_true, if_false, not_true_eq_false, not_false_eq_true], by simp -implicitDefEqProofs (disch := omega) only [e_X12_readLoans_2, e_X12_readLoans_2__1, e_X12_readLoans_2__2, e_X12_readLoans_2__3, e_X12_readLoans_2__4, e_X12_readLoans_2__5, w17, r1, wx_bd, wx_let, wx_st, wx_lit, wx_ga, wx_sa, pk_mul, nI_add, wx_le, wx_lt, wx_eq, wx_en, wx_ne', wx_nn, wx_ltn, wx_len, wx_nlt, wx_nle, wx_bz0, wx_bz1, if_pos, if_neg, wx_ite, Nat.reduceEqDiff, eq_self, if_true, if_false, not_true_eq_false, not_false_eq_true], h4, hl, wFx_r _ _, wFx_r _ _⟩
    · have ke : wKd (TS j) (TV j) ≠ 1 := fun q => c0 ((wKd_e hvj).1 q)
      have eC : ∀ v s, f_X6_readPlanLine 260 (nI 2) σ = some (v, s) → f_X6_readLines_10 (f + 1) 260 (nI 2) (nI n) σ = if v = nI 0 then some (nI 0, s) else f_X6_readLines_10 f 260 (nI 2) (nI (n + 1)) s := fun v s e => by
        generalize wKd (TS j) (TV j) = K at *
        simp -implicitDefEqProofs (disch := omega) only [e_X6_readLines_10, e_X6_readLines_10__1, e_X6_readLines_10__2, e_X6_readLines_10__3, e_X6_readLines_46, e_X6_readLines_46__1, h7, k1, e, wx_bd, wx_let, wx_st, wx_lit, wx_ga, wx_sa, pk_mul, nI_add, wx_le, wx_lt, wx_eq, wx_en, wx_ne', wx_nn, wx_ltn, wx_len, wx_nlt, wx_nle, wx_bz0, wx_bz1, if_pos, if_neg, wx_ite, Nat.reduceEqDiff, eq_self, if_true, if_false, not_true_eq_false, not_false_eq_true]
      by_cases cw : TS j = 2 ∧ TV j = 17
      · have w17 := wl_wd1 r1 r2 cw
        by_cases k16 : n = 16
        · subst k16
          have fl := wl_fail hO hc (nI 3)
          have er := wl_errs (TF := TF) (j := j) r3 (nI 3)
          have k1' : σ 262 j = nI 273 := by rw [k1, (wKd_w hvj (r := 17) (by omega)).2 cw]; rfl
          have pl : f_X6_readPlanLine 260 (nI 2) σ = some (nI 0, wg_u (wg_u σ 260 8 (nI 3)) 260 9 (nI (TF j))) := by
            simp -implicitDefEqProofs (disch := omega) only [e_X6_readPlanLine, e_X6_readPlanLine__1, e_X6_readPlanLine__2, e_X6_readPlanLine__3, e_X6_readPlanLine__4, e_X6_expectFirst, e_X6_expectFirst__1, e_X6_expectFirst__2, h4, h7, k1', fl, wx_bd, wx_let, wx_st, wx_lit, wx_ga, wx_sa, pk_mul, nI_add, wx_le, wx_lt, wx_eq, wx_en, wx_ne', wx_nn, wx_ltn, wx_len, wx_nlt, wx_nle, wx_bz0, wx_bz1, if_pos, if_neg, wx_ite, Nat.reduceEqDiff, eq_self, if_true, if_false, not_true_eq_false, not_false_eq_true]
          exact Or.inr ⟨_, _, by rw [eC _ _ pl]; rfl, by simp -implicitDefEqProofs (disch := omega) only [e_X12_readLoans_2, e_X12_readLoans_2__1, e_X12_readLoans_2__2, e_X12_readLoans_2__3, e_X12_readLoans_2__4, e_X12_readLoans_2__5, w17, er, wx_bd, wx_let, wx_st, wx_lit, wx_ga, wx_sa, pk_mul, nI_add, wx_le, wx_lt, wx_eq, wx_en, wx_ne', wx_nn, wx_ltn, wx_len, wx_nlt, wx_nle, wx_bz0, wx_bz1, if_pos, if_neg, wx_ite, Nat.reduceEqDiff, eq_self, if_true, if_false, not_true_eq_false, not_false_eq_true], wE_mk (wFx_r _ _) (wFx_r _ _) rfl rfl rfl rfl (nI 3) (nI (TF j))⟩
        · rcases wl_lol hO hI (show n < 16 by omega) hjc hc hm h4 s28 s115 t6 t7 cw with ⟨σ', τ', j', a1, a2, a3, a4, a5, a6, a7, a8, a9⟩ | ⟨σ', τ', a1, a2, a3⟩
          · have e1 : f_X6_readLines_10 (f + 1) 260 (nI 2) (nI n) σ = f_X6_readLines_10 f 260 (nI 2) (nI (n + 1)) σ' := by
              rw [eC _ _ a1]
              simp only [n10, if_false]
            have e2 : f_X12_readLoans_2 (g + 1) 0 (nI n) τ = f_X12_readLoans_2 g 0 (nI (n + 1)) τ' := by
              simp -implicitDefEqProofs (disch := omega) only [e_X12_readLoans_2, e_X12_readLoans_2__1, e_X12_readLoans_2__2, e_X12_readLoans_2__3, e_X12_readLoans_2__4, e_X12_readLoans_2__5, w17, a2, wx_bd, wx_let, wx_st, wx_lit, wx_ga, wx_sa, pk_mul, nI_add, wx_le, wx_lt, wx_eq, wx_en, wx_ne', wx_nn, wx_ltn, wx_len, wx_nlt, wx_nle, wx_bz0, wx_bz1, if_pos, if_neg, wx_ite, Nat.reduceEqDiff, eq_self, if_true, if_false, not_true_eq_false, not_false_eq_true]
            rw [e1, e2]
            rcases ih j' (n + 1) σ' τ' f g (by omega) (by omega) (by omega) (by omega) a3 a4 a6 (by rw [a8 2 8 rfl]; exact s28) (by rw [a8 11 5 rfl]; exact s115) (by rw [a9 0 6 rfl]; exact t6) (by rw [a9 0 7 rfl]; exact t7) (fun l hl' => by
              by_cases e : l = n
              · subst e; exact a7
              · exact wLv4_fr e a8 a9 (hl l (by omega))) with ⟨m, σ2, τ2, b1, b2, b3, b4, b5, b6, b7⟩ | ⟨σ2, τ2, b1, b2, b3⟩
            · exact Or.inl ⟨m, σ2, τ2, b1, b2, b3, b4, b5, wFx_t (wFx_m pIN a8) b6, wFx_t (wFx_m qBN a9) b7⟩
            · exact Or.inr ⟨σ2, τ2, b1, b2, wE_t (wFx_m pIN a8) (wFx_m qBN a9) b3⟩
          · exact Or.inr ⟨σ', τ', by rw [eC _ _ a1]; rfl, by simp -implicitDefEqProofs (disch := omega) only [e_X12_readLoans_2, e_X12_readLoans_2__1, e_X12_readLoans_2__2, e_X12_readLoans_2__3, e_X12_readLoans_2__4, e_X12_readLoans_2__5, w17, a2, wx_bd, wx_let, wx_st, wx_lit, wx_ga, wx_sa, pk_mul, nI_add, wx_le, wx_lt, wx_eq, wx_en, wx_ne', wx_nn, wx_ltn, wx_len, wx_nlt, wx_nle, wx_bz0, wx_bz1, if_pos, if_neg, wx_ite, Nat.reduceEqDiff, eq_self, if_true, if_false, not_true_eq_false, not_false_eq_true], wFx_m (wU8_m pIN) a3.1, wFx_m qBN a3.2.1, a3.2.2⟩
      · have w17 := wl_wd0 (c := 17) hO jM (by omega) r1 r2 cw
        have er := wl_errs (TF := TF) (j := j) r3 (nI 1)
        have kn : wKd (TS j) (TV j) ≠ 273 := fun q => cw ((wKd_w hvj (r := 17) (by omega)).1 q)
        have ex := wl_exp0 hO hc (show 273 < 300 by omega) kn
        have ts : TS j < 100 := by unfold wTv at hvj; omega
        have pl : f_X6_readPlanLine 260 (nI 2) σ = some (nI 0, wg_u (wg_u σ 260 8 (nI 1)) 260 9 (nI (TF j))) := by
          clear eC
          generalize wKd (TS j) (TV j) = K at *
          simp -implicitDefEqProofs (disch := omega) only [e_X6_readPlanLine, e_X6_readPlanLine__1, e_X6_readPlanLine__2, e_X6_readPlanLine__3, e_X6_readPlanLine__4, e_X6_expectFirst, e_X6_expectFirst__1, e_X6_expectFirst__2, e_X6_expectFirst_25, e_X6_expectFirst_25__1, h4, h7, k1, ex, wx_bd, wx_let, wx_st, wx_lit, wx_ga, wx_sa, pk_mul, nI_add, wx_le, wx_lt, wx_eq, wx_en, wx_ne', wx_nn, wx_ltn, wx_len, wx_nlt, wx_nle, wx_bz0, wx_bz1, if_pos, if_neg, wx_ite, Nat.reduceEqDiff, eq_self, if_true, if_false, not_true_eq_false, not_false_eq_true]
        exact Or.inr ⟨_, _, by rw [eC _ _ pl]; rfl, by simp -implicitDefEqProofs (disch := omega) only [e_X12_readLoans_2, e_X12_readLoans_2__1, e_X12_readLoans_2__2, e_X12_readLoans_2__3, e_X12_readLoans_2__4, e_X12_readLoans_2__5, w17, r1, er, wx_bd, wx_let, wx_st, wx_lit, wx_ga, wx_sa, pk_mul, nI_add, wx_le, wx_lt, wx_eq, wx_en, wx_ne', wx_nn, wx_ltn, wx_len, wx_nlt, wx_nle, wx_bz0, wx_bz1, if_pos, if_neg, wx_ite, Nat.reduceEqDiff, eq_self, if_true, if_false, not_true_eq_false, not_false_eq_true], wE_mk (wFx_r _ _) (wFx_r _ _) rfl rfl rfl rfl (nI 1) (nI (TF j))⟩
end LP

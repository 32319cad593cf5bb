section LV
variable {M : Nat} {TS TV TF : Nat → Nat} {RM : Nat → wg_M → Prop}
set_option maxHeartbeats 1000000 in
theorem wE_L {k : Nat} {σ τ σ' τ' : wg_M} (h : wE (pK k) (qK k) σ τ σ' τ') : wE pL qL σ τ σ' τ' := ⟨wFx_m (wU8_m pKL) h.1, wFx_m qKL h.2.1, h.2.2⟩
set_option maxHeartbeats 1000000 in
theorem wl_lawL (hO : wTo M TS TV) (hI : wTi M TS TV TF RM) : ∀ d j k c1 c2 σ τ f g, M ≤ j + d → d < f → d < g → k ≤ 16 → wTc M TS TV TF j σ → RM j τ → wCc (wAc c1 c2 k) σ → wCm (wAc c1 c2 k) τ → wo_l (wAc c1 c2 k) ≤ j → σ 266 6 = nI k → τ 0 30 = nI 0 → (∀ l, l < k → wLi l (wAc c1 c2 l) (c1 l) (c2 l) σ τ) → (∃ n σ' τ', n ≤ 16 ∧ f_X6_readLaw_9 f 260 (nI k) σ = f_X6_readLaw_43 260 σ' ∧ f_X12_readLaw_2 g 0 (nI k) τ = some (nI n, τ') ∧ σ' 266 6 = nI n ∧ wLk n σ' τ' ∧ wFx pL σ σ' ∧ wFx qL τ τ') ∨ (∃ σ' τ', f_X6_readLaw_9 f 260 (nI k) σ = some (nI 0, σ') ∧ f_X12_readLaw_2 g 0 (nI k) τ = some (-nI 1, τ') ∧ wE pL qL σ τ σ' τ') := by
  obtain ⟨hM, hM0, hv⟩ := id hO
  intro d
  induction d with
  | zero =>
    intro j k c1 c2 σ τ f g hd hf hg hk hc hm cc cm hb l6 o0 hl
    obtain ⟨f, rfl⟩ : ∃ x, f = x + 1 := ⟨f - 1, by omega⟩
    obtain ⟨g, rfl⟩ : ∃ x, g = x + 1 := ⟨g - 1, by omega⟩
    obtain ⟨jM, h6, h7, hk'⟩ := id hc
    obtain ⟨k1, k2, k3⟩ := hk' j jM
    obtain ⟨r1, r2, r3⟩ := hI.1 j τ hm
    obtain rfl : j = M := by omega
    rw [hM0] at k1 r1
    have k1 : σ 262 j = nI 1 := k1
    exact Or.inl ⟨k, σ, τ, hk, by simp -implicitDefEqProofs (disch := omega) only [e_X6_readLaw_9, e_X6_readLaw_9__1, e_X6_readLaw_9__2, e_X6_readLaw_9__3, h7, k1, wx_bd, wx_let, wx_st, wx_lit, wx_ga, wx_sa, pk_mul, nI_add, wx_le, wx_lt, wx_eq, wx_en, wx_ne', wx_nn, wx_ltn, wx_len, wx_nlt, wx_nle, wx_bz0, wx_bz1, if_pos, if_neg, wx_ite, Nat.reduceEqDiff, eq_self, if_true, if_false, not_true_eq_false, not_false_eq_true], by simp -implicitDefEqProofs (disch := omega) only [e_X12_readLaw_2, e_X12_readLaw_2__1, e_X12_readLaw_2__2, e_X12_readLaw_2__3, e_X12_readLaw_2__4, e_X12_readLaw_2__5, e_X12_readLaw_2__6, e_X12_readLaw_2__7, e_X12_readLaw_2__8, e_X12_readLaw_2__9, e_X12_readLaw_2__10, e_X12_readLaw_2__11, e_X12_readLaw_2__12, e_X12_isLineWord, e_X12_isLineWord__1, r1, wx_bd, wx_let, wx_st, wx_lit, wx_ga, wx_sa, pk_mul, nI_add, wx_le, wx_lt, wx_eq, wx_en, wx_ne', wx_nn, wx_ltn, wx_len, wx_nlt, wx_nle, wx_bz0, wx_bz1, if_pos, if_neg, wx_ite, Nat.reduceEqDiff, eq_self, if_true, if_false, not_true_eq_false, not_false_eq_true], l6, ⟨c1, c2, cc, cm, by omega, hl⟩, wFx_r _ _, wFx_r _ _⟩
  | succ d ih =>
    intro j k c1 c2 σ τ f g hd hf hg hk hc hm cc cm hb l6 o0 hl
    obtain ⟨f, rfl⟩ : ∃ x, f = x + 1 := ⟨f - 1, by omega⟩
    obtain ⟨g, rfl⟩ : ∃ x, g = x + 1 := ⟨g - 1, by omega⟩
    obtain ⟨jM, h6, h7, hk'⟩ := id hc
    obtain ⟨k1, k2, k3⟩ := hk' j jM
    obtain ⟨r1, r2, r3⟩ := hI.1 j τ hm
    have hvj := hv j jM
    have kl := wKd_lt hvj
    by_cases c0 : TS j = 0
    · rw [(wKd_e hvj).2 c0] at k1
      rw [c0] at r1
      exact Or.inl ⟨k, σ, τ, hk, by simp -implicitDefEqProofs (disch := omega) only [e_X6_readLaw_9, e_X6_readLaw_9__1, e_X6_readLaw_9__2, e_X6_readLaw_9__3, h7, k1, wx_bd, wx_let, wx_st, wx_lit, wx_ga, wx_sa, pk_mul, nI_add, wx_le, wx_lt, wx_eq, wx_en, wx_ne', wx_nn, wx_ltn, wx_len, wx_nlt, wx_nle, wx_bz0, wx_bz1, if_pos, if_neg, wx_ite, Nat.reduceEqDiff, eq_self, if_true, if_false, not_true_eq_false, not_false_eq_true], by simp -implicitDefEqProofs (disch := omega) only [e_X12_readLaw_2, e_X12_readLaw_2__1, e_X12_readLaw_2__2, e_X12_readLaw_2__3, e_X12_readLaw_2__4, e_X12_readLaw_2__5, e_X12_readLaw_2__6, e_X12_readLaw_2__7, e_X12_readLaw_2__8, e_X12_readLaw_2__9, e_X12_readLaw_2__10, e_X12_readLaw_2__11, e_X12_readLaw_2__12, e_X12_isLineWord, e_X12_isLineWord__1, r1, wx_bd, wx_let, wx_st, wx_lit, wx_ga, wx_sa, pk_mul, nI_add, wx_le, wx_lt, wx_eq, wx_en, wx_ne', wx_nn, wx_ltn, wx_len, wx_nlt, wx_nle, wx_bz0, wx_bz1, if_pos, if_neg, wx_ite, Nat.reduceEqDiff, eq_self, if_true, if_false, not_true_eq_false, not_false_eq_true], l6, ⟨c1, c2, cc, cm, by omega, hl⟩, wFx_r _ _, wFx_r _ _⟩
    · have ke : wKd (TS j) (TV j) ≠ 1 := fun q => c0 ((wKd_e hvj).1 q)
      have eC : f_X6_readLaw_9 (f + 1) 260 (nI k) σ = wg_bd (f_X6_readLawLine 260 σ) (fun v s => if v = nI 0 then some (nI 0, s) else f_X6_readLaw_9 f 260 (nI (k + 1)) s) := by
        generalize wKd (TS j) (TV j) = K at *
        simp -implicitDefEqProofs (disch := omega) only [e_X6_readLaw_9, e_X6_readLaw_9__1, e_X6_readLaw_9__2, e_X6_readLaw_9__3, h7, k1, wx_bd, wx_let, wx_st, wx_lit, wx_ga, wx_sa, pk_mul, nI_add, wx_le, wx_lt, wx_eq, wx_en, wx_ne', wx_nn, wx_ltn, wx_len, wx_nlt, wx_nle, wx_bz0, wx_bz1, if_pos, if_neg, wx_ite, Nat.reduceEqDiff, eq_self, if_true, if_false, not_true_eq_false, not_false_eq_true]
        congr 1
        funext v s
        rw [← nI_add]
        rfl
      by_cases cw : TS j = 2 ∧ TV j < 3
      · by_cases k16 : k = 16
        · subst k16
          have fl := wl_fail hO hc (nI 3)
          have er := wl_errs (TF := TF) (j := j) r3 (nI 3)
          have r2 := r2 (by omega)
          rw [cw.1] at r1
          have kk : wKd (TS j) (TV j) = 266 + TV j := by
            rw [cw.1]
            show (if TV j < 7 then 266 + TV j else _) = _
            rw [if_pos (by omega)]
          rw [kk] at k1
          have lf : f_X6_readLawLine 260 σ = some (nI 0, wg_u (wg_u σ 260 8 (nI 3)) 260 9 (nI (TF j))) := by
            have e37 : f_X6_readLawLine 260 σ = f_X6_readLawLine_37 260 (nI (266 + TV j)) σ := by
              rcases (show TV j = 0 ∨ TV j = 1 ∨ TV j = 2 by omega) with q | q | q <;> rw [q] at k1 ⊢ <;> simp -implicitDefEqProofs (disch := omega) only [e_X6_readLawLine, e_X6_readLawLine__1, e_X6_readLawLine__2, h7, k1, wx_bd, wx_let, wx_st, wx_lit, wx_ga, wx_sa, pk_mul, nI_add, wx_le, wx_lt, wx_eq, wx_en, wx_ne', wx_nn, wx_ltn, wx_len, wx_nlt, wx_nle, wx_bz0, wx_bz1, if_pos, if_neg, wx_ite, Nat.reduceEqDiff, eq_self, if_true, if_false, not_true_eq_false, not_false_eq_true]
            rw [e37]
            simp -implicitDefEqProofs (disch := omega) only [e_X6_readLawLine_37, e_X6_readLawLine_37__1, e_X6_readLawLine_37__2, e_X6_readLawLine_37__3, e_X6_readLawLine_37__4, e_X6_readLawLine_37__5, e_X6_readLawLine_37__6, e_X6_readLawLine_37__7, e_X6_readLawLine_37__8, e_X6_readLawLine_37__9, l6, fl, wx_bd, wx_let, wx_st, wx_lit, wx_ga, wx_sa, pk_mul, nI_add, wx_le, wx_lt, wx_eq, wx_en, wx_ne', wx_nn, wx_ltn, wx_len, wx_nlt, wx_nle, wx_bz0, wx_bz1, if_pos, if_neg, wx_ite, Nat.reduceEqDiff, eq_self, if_true, if_false, not_true_eq_false, not_false_eq_true]
          refine Or.inr ⟨_, _, by rw [eC, lf, wx_bd]; rfl, ?_, wE_mk (wFx_r _ _) (wFx_r _ _) rfl rfl rfl rfl (nI 3) (nI (TF j))⟩
          have v3 : TV j < 3 := cw.2
          simp -implicitDefEqProofs (disch := omega) only [e_X12_readLaw_2, e_X12_readLaw_2__1, e_X12_readLaw_2__2, e_X12_readLaw_2__3, e_X12_readLaw_2__4, e_X12_readLaw_2__5, e_X12_readLaw_2__6, e_X12_readLaw_2__7, e_X12_readLaw_2__8, e_X12_readLaw_2__9, e_X12_readLaw_2__10, e_X12_readLaw_2__11, e_X12_readLaw_2__12, e_X12_isLineWord, e_X12_isLineWord__1, e_X12_isIn, r1, r2, er, wx_bd, wx_let, wx_st, wx_lit, wx_ga, wx_sa, pk_mul, nI_add, wx_le, wx_lt, wx_eq, wx_en, wx_ne', wx_nn, wx_ltn, wx_len, wx_nlt, wx_nle, wx_bz0, wx_bz1, if_pos, if_neg, wx_ite, Nat.reduceEqDiff, eq_self, if_true, if_false, not_true_eq_false, not_false_eq_true]
        · have n10 : ¬ nI 1 = nI 0 := by decide
          rcases wl_lineL hO hI (show k < 16 by omega) ⟨cw.1, rfl, cw.2⟩ hc hm cc cm hb l6 o0 with ⟨σ', τ', D1, D2, j', a1, a2, a3, a4, a5, a6, a7, a8, a9, a10, a11, a12, a13⟩ | ⟨σ', τ', a1, a2, a3⟩
          · have cg1 : ∀ l, l < k → (fun l => if l = k then D1 else c1 l) l = c1 l ∧ (fun l => if l = k then D2 else c2 l) l = c2 l := fun l hl => ⟨if_neg (by omega), if_neg (by omega)⟩
            have eA : ∀ l, l ≤ k → wAc (fun l => if l = k then D1 else c1 l) (fun l => if l = k then D2 else c2 l) l = wAc c1 c2 l := fun l hl => wAc_cg l (fun x hx => cg1 x (by omega))
            have eA1 : wAc (fun l => if l = k then D1 else c1 l) (fun l => if l = k then D2 else c2 l) (k + 1) = ((wAc c1 c2 k ++ D1) ++ D2) := by
              show (wAc _ _ k ++ (if k = k then D1 else c1 k)) ++ (if k = k then D2 else c2 k) = _
              rw [eA k (Nat.le_refl _), if_pos rfl, if_pos rfl]
            have res := ih j' (k + 1) (fun l => if l = k then D1 else c1 l) (fun l => if l = k then D2 else c2 l) σ' τ' f g (by omega) (by omega) (by omega) (by omega) a3 a4 (by rw [eA1]; exact a5) (by rw [eA1]; exact a6) (by rw [eA1]; exact a7) a9 a10 (fun l hl' => by
              rw [eA l (by omega)]
              by_cases e : l = k
              · subst e
                simp only [if_true]
                exact a11
              · simp only [e, if_false]
                exact wLi_fr e a12 a13 (hl l (by omega)))
            have e1 : f_X6_readLaw_9 (f + 1) 260 (nI k) σ = f_X6_readLaw_9 f 260 (nI (k + 1)) σ' := by
              rw [eC, a1, wx_bd]
              simp only [n10, if_false]
            rw [e1, a2 g]
            rcases res with ⟨n, σ2, τ2, b1, b2, b3, b4, b5, b6, b7⟩ | ⟨σ2, τ2, b1, b2, b3⟩
            · exact Or.inl ⟨n, σ2, τ2, b1, b2, b3, b4, b5, wFx_t (wFx_m pKL a12) b6, wFx_t (wFx_m qKL a13) b7⟩
            · exact Or.inr ⟨σ2, τ2, b1, b2, wE_t (wFx_m pKL a12) (wFx_m qKL a13) b3⟩
          · exact Or.inr ⟨σ', τ', by rw [eC, a1, wx_bd]; rfl, a2 g, wE_L a3⟩
      · have fl := wl_fail hO hc (nI 1)
        have er := wl_errs (TF := TF) (j := j) r3 (nI 1)
        have kn : ∀ r, r < 3 → wKd (TS j) (TV j) ≠ 266 + r := fun r hr q => cw (by
          have e : wKd 2 r = 266 + r := by
            show (if r < 7 then 266 + r else _) = _
            rw [if_pos (by omega)]
          have := (wKd_w hvj (r := r) (by omega)).1 (q.trans e.symm)
          omega)
        have kn0 := kn 0 (by omega)
        have kn1 := kn 1 (by omega)
        have kn2 := kn 2 (by omega)
        have ts : TS j < 100 ∧ (TS j = 2 → TV j < 26) := by unfold wTv at hvj; omega
        refine Or.inr ⟨_, _, ?_, ?_, wE_mk (wFx_r _ _) (wFx_r _ _) rfl rfl rfl rfl (nI 1) (nI (TF j))⟩
        · rw [eC]
          clear eC kn
          generalize wKd (TS j) (TV j) = K at *
          simp -implicitDefEqProofs (disch := omega) only [e_X6_readLawLine, e_X6_readLawLine__1, e_X6_readLawLine__2, h7, k1, fl, wx_bd, wx_let, wx_st, wx_lit, wx_ga, wx_sa, pk_mul, nI_add, wx_le, wx_lt, wx_eq, wx_en, wx_ne', wx_nn, wx_ltn, wx_len, wx_nlt, wx_nle, wx_bz0, wx_bz1, if_pos, if_neg, wx_ite, Nat.reduceEqDiff, eq_self, if_true, if_false, not_true_eq_false, not_false_eq_true]
        · by_cases s2 : TS j = 2
          · have r2 := r2 (by omega)
            have v3 : 2 < TV j := by omega
            rw [s2] at r1
            simp -implicitDefEqProofs (disch := omega) only [e_X12_readLaw_2, e_X12_readLaw_2__1, e_X12_readLaw_2__2, e_X12_readLaw_2__3, e_X12_readLaw_2__4, e_X12_readLaw_2__5, e_X12_readLaw_2__6, e_X12_readLaw_2__7, e_X12_readLaw_2__8, e_X12_readLaw_2__9, e_X12_readLaw_2__10, e_X12_readLaw_2__11, e_X12_readLaw_2__12, e_X12_isLineWord, e_X12_isLineWord__1, e_X12_isIn, r1, r2, er, wx_bd, wx_let, wx_st, wx_lit, wx_ga, wx_sa, pk_mul, nI_add, wx_le, wx_lt, wx_eq, wx_en, wx_ne', wx_nn, wx_ltn, wx_len, wx_nlt, wx_nle, wx_bz0, wx_bz1, if_pos, if_neg, wx_ite, Nat.reduceEqDiff, eq_self, if_true, if_false, not_true_eq_false, not_false_eq_true]
          · simp -implicitDefEqProofs (disch := omega) only [e_X12_readLaw_2, e_X12_readLaw_2__1, e_X12_readLaw_2__2, e_X12_readLaw_2__3, e_X12_readLaw_2__4, e_X12_readLaw_2__5, e_X12_readLaw_2__6, e_X12_readLaw_2__7, e_X12_readLaw_2__8, e_X12_readLaw_2__9, e_X12_readLaw_2__10, e_X12_readLaw_2__11, e_X12_readLaw_2__12, e_X12_isLineWord, e_X12_isLineWord__1, r1, er, wx_bd, wx_let, wx_st, wx_lit, wx_ga, wx_sa, pk_mul, nI_add, wx_le, wx_lt, wx_eq, wx_en, wx_ne', wx_nn, wx_ltn, wx_len, wx_nlt, wx_nle, wx_bz0, wx_bz1, if_pos, if_neg, wx_ite, Nat.reduceEqDiff, eq_self, if_true, if_false, not_true_eq_false, not_false_eq_true]
end LV
/-! the draft becomes the law: the reference -/
set_option maxHeartbeats 1000000 in
theorem wl_tk2 {n : Nat} (hn : n ≤ 16) : ∀ d l f τ, l + d = n → d < f → τ 0 28 = nI 0 → ∃ τ', f_X12_takesLaw_2 f 0 (nI n) (nI l) τ = f_X12_takesLaw_107 wg_N 0 (nI n) (nI 0) τ' ∧ (∀ b i, 12 ≤ b → b ≤ 15 → l ≤ i → i < n → τ' b i = τ b (32 + i)) ∧ ∀ b i, ¬ (12 ≤ b ∧ b ≤ 15 ∧ l ≤ i ∧ i < n) → τ' b i = τ b i := by
  intro d
  induction d with
  | zero =>
    intro l f τ hl hf hw
    obtain ⟨f, rfl⟩ : ∃ x, f = x + 1 := ⟨f - 1, by omega⟩
    exact ⟨τ, by simp -implicitDefEqProofs (disch := omega) only [e_X12_takesLaw_2, e_X12_takesLaw_2__1, e_X12_takesLaw_2__2, e_X12_takesLaw_2__3, e_X12_takesLaw_2__4, e_X12_takesLaw_2__5, e_X12_takesLaw_2__6, e_X12_takesLaw_2__7, e_X12_takesLaw_2__8, e_X12_takesLaw_2__9, wx_bd, wx_let, wx_st, wx_lit, wx_ga, wx_sa, pk_mul, nI_add, wx_le, wx_lt, wx_eq, wx_en, wx_ne', wx_nn, wx_ltn, wx_len, wx_nlt, wx_nle, wx_bz0, wx_bz1, if_pos, if_neg, wx_ite, Nat.reduceEqDiff, eq_self, if_true, if_false, not_true_eq_false, not_false_eq_true], fun b i _ _ _ _ => by omega, fun _ _ _ => rfl⟩
  | succ d ih =>
    intro l f τ hl hf hw
    obtain ⟨f, rfl⟩ : ∃ x, f = x + 1 := ⟨f - 1, by omega⟩
    obtain ⟨τ', g1, g2, g3⟩ := ih (l + 1) f (wg_u (wg_u (wg_u (wg_u τ 12 l (τ 12 (32 + l))) 13 l (τ 13 (32 + l))) 14 l (τ 14 (32 + l))) 15 l (τ 15 (32 + l))) (by omega) (by omega) (by simp -implicitDefEqProofs (disch := omega) only [wx_uk, wx_un, pk_us, pk_un]; exact hw)
    refine ⟨τ', ?_, fun b i b1 b2 i1 i2 => ?_, fun b i q => ?_⟩
    · simp -implicitDefEqProofs (disch := omega) only [e_X12_takesLaw_2, e_X12_takesLaw_2__1, e_X12_takesLaw_2__2, e_X12_takesLaw_2__3, e_X12_takesLaw_2__4, e_X12_takesLaw_2__5, e_X12_takesLaw_2__6, e_X12_takesLaw_2__7, e_X12_takesLaw_2__8, e_X12_takesLaw_2__9, hw, Nat.mul_zero, Nat.zero_add, wx_uk, wx_un, pk_us, pk_un, wx_bd, wx_let, wx_st, wx_lit, wx_ga, wx_sa, pk_mul, nI_add, wx_le, wx_lt, wx_eq, wx_en, wx_ne', wx_nn, wx_ltn, wx_len, wx_nlt, wx_nle, wx_bz0, wx_bz1, if_pos, if_neg, wx_ite, Nat.reduceEqDiff, eq_self, if_true, if_false, not_true_eq_false, not_false_eq_true]
      exact g1
    · by_cases e : i = l
      · subst e
        rw [g3 b i (by omega)]
        rcases (show b = 12 ∨ b = 13 ∨ b = 14 ∨ b = 15 by omega) with rfl | rfl | rfl | rfl <;> simp -implicitDefEqProofs (disch := omega) only [wx_uk, wx_un, pk_us, pk_un]
      · rw [g2 b i b1 b2 (by omega) i2]
        rcases (show b = 12 ∨ b = 13 ∨ b = 14 ∨ b = 15 by omega) with rfl | rfl | rfl | rfl <;> simp -implicitDefEqProofs (disch := omega) only [wx_uk, wx_un, pk_us, pk_un]
    · rw [g3 b i (by omega), wx_ur, if_neg (by omega), wx_ur, if_neg (by omega), wx_ur, if_neg (by omega), wx_ur, if_neg (by omega)]
set_option maxHeartbeats 1000000 in
theorem wl_tk107 {n m : Nat} (hm : m ≤ 400) : ∀ d k f τ, k + d = m → d < f → τ 0 28 = nI 0 → τ 0 29 = nI m → ∃ τ', f_X12_takesLaw_107 f 0 (nI n) (nI k) τ = some (nI 0, wg_u τ' 11 0 (nI n)) ∧ (∀ b i, 16 ≤ b → b ≤ 17 → k ≤ i → i < m → τ' b i = τ b (800 + i)) ∧ ∀ b i, ¬ (16 ≤ b ∧ b ≤ 17 ∧ k ≤ i ∧ i < m) → τ' b i = τ b i := by
  intro d
  induction d with
  | zero =>
    intro k f τ hk hf hw h9
    obtain ⟨f, rfl⟩ : ∃ x, f = x + 1 := ⟨f - 1, by omega⟩
    exact ⟨τ, by simp -implicitDefEqProofs (disch := omega) only [e_X12_takesLaw_107, e_X12_takesLaw_107__1, e_X12_takesLaw_107__2, e_X12_takesLaw_107__3, e_X12_takesLaw_107__4, e_X12_takesLaw_107__5, e_X12_takesLaw_107__6, hw, h9, wx_bd, wx_let, wx_st, wx_lit, wx_ga, wx_sa, pk_mul, nI_add, wx_le, wx_lt, wx_eq, wx_en, wx_ne', wx_nn, wx_ltn, wx_len, wx_nlt, wx_nle, wx_bz0, wx_bz1, if_pos, if_neg, wx_ite, Nat.reduceEqDiff, eq_self, if_true, if_false, not_true_eq_false, not_false_eq_true], fun b i _ _ _ _ => by omega, fun _ _ _ => rfl⟩
  | succ d ih =>
    intro k f τ hk hf hw h9
    obtain ⟨f, rfl⟩ : ∃ x, f = x + 1 := ⟨f - 1, by omega⟩
    obtain ⟨τ', g1, g2, g3⟩ := ih (k + 1) f (wg_u (wg_u τ 16 k (τ 16 (800 + k))) 17 k (τ 17 (800 + k))) (by omega) (by omega) (by simp -implicitDefEqProofs (disch := omega) only [wx_uk, wx_un, pk_us, pk_un]; exact hw) (by simp -implicitDefEqProofs (disch := omega) only [wx_uk, wx_un, pk_us, pk_un]; exact h9)
    refine ⟨τ', ?_, fun b i b1 b2 i1 i2 => ?_, fun b i q => ?_⟩
    · simp -implicitDefEqProofs (disch := omega) only [e_X12_takesLaw_107, e_X12_takesLaw_107__1, e_X12_takesLaw_107__2, e_X12_takesLaw_107__3, e_X12_takesLaw_107__4, e_X12_takesLaw_107__5, e_X12_takesLaw_107__6, hw, h9, Nat.mul_zero, Nat.zero_add, wx_uk, wx_un, pk_us, pk_un, wx_bd, wx_let, wx_st, wx_lit, wx_ga, wx_sa, pk_mul, nI_add, wx_le, wx_lt, wx_eq, wx_en, wx_ne', wx_nn, wx_ltn, wx_len, wx_nlt, wx_nle, wx_bz0, wx_bz1, if_pos, if_neg, wx_ite, Nat.reduceEqDiff, eq_self, if_true, if_false, not_true_eq_false, not_false_eq_true]
      exact g1
    · by_cases e : i = k
      · subst e
        rw [g3 b i (by omega)]
        rcases (show b = 16 ∨ b = 17 by omega) with rfl | rfl <;> simp -implicitDefEqProofs (disch := omega) only [wx_uk, wx_un, pk_us, pk_un]
      · rw [g2 b i b1 b2 (by omega) i2]
        rcases (show b = 16 ∨ b = 17 by omega) with rfl | rfl <;> simp -implicitDefEqProofs (disch := omega) only [wx_uk, wx_un, pk_us, pk_un]
    · rw [g3 b i (by omega), wx_ur, if_neg (by omega), wx_ur, if_neg (by omega)]
set_option maxHeartbeats 1000000 in
theorem wAc_sp {c1 c2 : Nat → List (Nat × Int32)} {l : Nat} : ∀ n, l < n → ∃ R, wAc c1 c2 n = ((wAc c1 c2 l ++ c1 l) ++ c2 l) ++ R
  | 0, h => by omega
  | n + 1, h => by
    by_cases e : l = n
    · subst e
      exact ⟨[], by rw [List.append_nil]; rfl⟩
    · obtain ⟨R, hR⟩ := wAc_sp (c1 := c1) (c2 := c2) (l := l) n (by omega)
      refine ⟨(R ++ c1 n) ++ c2 n, ?_⟩
      show (wAc c1 c2 n ++ c1 n) ++ c2 n = _
      rw [hR]
      simp only [List.append_assoc]
set_option maxHeartbeats 1000000 in
theorem wShK_26 : wShK 26 := by unfold wShK; decide
set_option maxHeartbeats 1000000 in
theorem wShK_266 : wShK 266 := by unfold wShK; decide
set_option maxHeartbeats 1000000 in
theorem wl_tkL {n : Nat} {σ τ : wg_M} (hn : n ≤ 16) (h6 : σ 266 6 = nI n) (hL : wLk n σ τ) (h28 : τ 0 28 = nI 0) : ∃ τ', f_X12_takesLaw 0 (nI n) τ = some (nI 0, τ') ∧ wLw (wcK 266 26 σ) 0 τ' ∧ ∀ b i, ¬ (12 ≤ b ∧ b ≤ 15 ∧ i < 16) → ¬ (16 ≤ b ∧ b ≤ 17 ∧ i < 400) → ¬ (b = 11 ∧ i = 0) → τ' b i = τ b i := by
  obtain ⟨c1, c2, cc, cm, lm, hl⟩ := hL
  obtain ⟨τ1, a1, a2, a3⟩ := wl_tk2 hn n 0 wg_N τ (by omega) (by rw [wx_N]; omega) h28
  have m1 := cm.1
  obtain ⟨τ2, b1, b2, b3⟩ := wl_tk107 (n := n) lm (wo_l (wAc c1 c2 n)) 0 wg_N τ1 (by omega) (by rw [wx_N]; omega) (by rw [a3 0 28 (by omega)]; exact h28) (by rw [a3 0 29 (by omega)]; exact m1)
  have hd : 266 + 6 ≤ 26 ∨ 26 + 6 ≤ 266 := by omega
  refine ⟨wg_u τ2 11 0 (nI n), ?_, ⟨n, hn, ?_, ?_, fun l => (wAc c1 c2 (l + 1)).length, c1, c2, fun l hln => ⟨?_, ?_⟩⟩, fun b i q1 q2 q3 => ?_⟩
  · simp -implicitDefEqProofs (disch := omega) only [e_X12_takesLaw, wx_lit]
    rw [a1]; exact b1
  · show wcK 266 26 σ 26 6 = nI n
    rw [wcK_c6 hd]; exact h6
  · rw [wx_uk, pk_us]
  · obtain ⟨R, hR⟩ := wAc_sp (c1 := c1) (c2 := c2) n hln
    have cf : (if l = 0 then 0 else (wAc c1 c2 (l - 1 + 1)).length) = (wAc c1 c2 l).length := by
      by_cases e : l = 0
      · subst e; rfl
      · rw [if_neg e, show l - 1 + 1 = l by omega]
    show wLl (wcK 266 26 σ) 0 (wg_u τ2 11 0 (nI n)) (if l = 0 then 0 else (wAc c1 c2 (l - 1 + 1)).length) l (c1 l) (c2 l)
    rw [cf]
    obtain ⟨⟨w, w1, w2, w3⟩, d1, d2, d3, d4, d5, d6, d7⟩ := hl l hln
    have C1 := cc.2
    have C2 := cm.2
    rw [hR, wo_C_app, wo_C_app, wo_C_app] at C1
    rw [hR, wo_M_app, wo_M_app, wo_M_app] at C2
    have len : ((wAc c1 c2 l ++ c1 l) ++ c2 l).length + R.length ≤ 400 := by
      have := wo_len (wAc c1 c2 n)
      rw [hR, List.length_append] at this
      rw [hR] at lm
      omega
    have lel : wo_l ((wAc c1 c2 l ++ c1 l) ++ c2 l) + wo_l R = wo_l (wAc c1 c2 n) := by rw [hR, wo_l_app _ R]
    rw [List.length_append, List.length_append] at len
    rw [wo_l_app, wo_l_app] at lel
    have rd : ∀ b, 12 ≤ b → b ≤ 15 → wg_u τ2 11 0 (nI n) b l = τ b (32 + l) := fun b q1 q2 => by
      rw [wx_un (by omega), b3 b l (by omega), a2 b l q1 q2 (by omega) hln]
    have ro : ∀ b i, 16 ≤ b → b ≤ 17 → i < wo_l (wAc c1 c2 n) → wg_u τ2 11 0 (nI n) b i = τ b (800 + i) := fun b i q1 q2 q3 => by
      rw [wx_un (by omega), b2 b i q1 q2 (by omega) q3, a3 b (800 + i) (by omega)]
    refine ⟨⟨w, w1, ?_, ?_⟩, ?_, ?_, by omega, ⟨wo_l (wAc c1 c2 l), ?_, ?_, ?_, by omega, ?_, ?_⟩, ?_, ?_, d6, d7⟩
    · show wcK 266 26 σ (26 + 3) l = _
      rw [wcK_r3 hd (by omega)]; exact w2
    · rw [rd 12 (by omega) (by omega)]; exact w3
    · show wcK 266 26 σ (26 + 4) l = _
      rw [wcK_r4 hd (by omega)]; exact d1
    · show wcK 266 26 σ (26 + 5) l = _
      rw [wcK_r5 hd (by omega)]; exact d2
    · rw [rd 13 (by omega) (by omega)]; exact d3
    · rw [rd 14 (by omega) (by omega)]; exact d4
    · rw [rd 15 (by omega) (by omega)]; exact d5
    · refine wo_M_fr (c1 l) _ (fun i i1 i2 => ⟨ro 16 i (by omega) (by omega) (by omega), ro 17 i (by omega) (by omega) (by omega)⟩) ?_
      have := C2.1.1.2
      rw [Nat.zero_add] at this
      exact this
    · refine wo_M_fr (c2 l) _ (fun i i1 i2 => ⟨ro 16 i (by omega) (by omega) (by omega), ro 17 i (by omega) (by omega) (by omega)⟩) ?_
      have := C2.1.2
      rw [Nat.zero_add, wo_l_app] at this
      exact this
    · refine wo_C_fr (c1 l) _ (fun i i1 i2 => ⟨?_, ?_⟩) (by have := C1.1.1.2; rw [Nat.zero_add] at this; exact this)
      · show wcK 266 26 σ (26 + 1) i = σ (266 + 1) i
        exact wcK_r1 hd (by omega)
      · show wcK 266 26 σ (26 + 2) i = σ (266 + 2) i
        exact wcK_r2 hd (by omega)
    · refine wo_C_fr (c2 l) _ (fun i i1 i2 => ⟨?_, ?_⟩) (by have := C1.1.2; rw [Nat.zero_add, List.length_append] at this; exact this)
      · show wcK 266 26 σ (26 + 1) i = σ (266 + 1) i
        exact wcK_r1 hd (by omega)
      · show wcK 266 26 σ (26 + 2) i = σ (266 + 2) i
        exact wcK_r2 hd (by omega)
  · show (wAc c1 c2 (l + 1)).length = (if l = 0 then 0 else (wAc c1 c2 (l - 1 + 1)).length) + (c1 l).length + (c2 l).length
    have cf : (if l = 0 then 0 else (wAc c1 c2 (l - 1 + 1)).length) = (wAc c1 c2 l).length := by
      by_cases e : l = 0
      · subst e; rfl
      · rw [if_neg e, show l - 1 + 1 = l by omega]
    rw [cf]
    show ((wAc c1 c2 l ++ c1 l) ++ c2 l).length = _
    rw [List.length_append, List.length_append]
  · rw [wx_ur, if_neg q3, b3 b i (by omega), a3 b i (by omega)]

def pO (a i : Nat) : Bool := (a == 260 && (i == 7 || i == 13 || i == 14 || i == 15)) || a == 265
def qO (a i : Nat) : Bool := (a == 0 && (i == 16 || i == 17 || i == 18 || i == 19 || i == 30 || i == 32)) || a == 18
set_option maxHeartbeats 1000000 in
theorem pOC (a i : Nat) (h : pO a i = true) : pC a i = true := by
  simp only [pO, Bool.or_eq_true, Bool.and_eq_true, beq_iff_eq] at h
  simp only [pC, pS, Bool.or_eq_true, Bool.and_eq_true, beq_iff_eq]
  omega
set_option maxHeartbeats 1000000 in
theorem qOC (a i : Nat) (h : qO a i = true) : qC a i = true := by
  simp only [qO, Bool.or_eq_true, Bool.and_eq_true, beq_iff_eq] at h
  simp only [qC, qS, Bool.or_eq_true, Bool.and_eq_true, beq_iff_eq]
  omega
set_option maxHeartbeats 1000000 in
theorem wFx_rdO {τ τ' : wg_M} (h : ∀ a i, ¬ (a = 0 ∧ 16 ≤ i ∧ i ≤ 19) → τ' a i = τ a i) : wFx qO τ τ' := fun a i q => by
  simp only [qO, Bool.or_eq_false_iff, Bool.and_eq_false_iff, beq_eq_false_iff_ne] at q
  exact h a i (by omega)
section OP
variable {M : Nat} {TS TV TF : Nat → Nat} {RM : Nat → wg_M → Prop}
set_option maxHeartbeats 1000000 in
theorem wl_open (hO : wTo M TS TV) (hI : wTi M TS TV TF RM) : ∀ d j W σ τ f g, M ≤ j + d → d < f → M + 2 ≤ g + j → wTc M TS TV TF j σ → RM j τ → wWc W σ → wWm W τ → wWf W → wop W ≤ 8 → (∃ σ' τ', f_X6_readOpening_0 f 260 σ = some (nI 0, σ') ∧ f_X12_readAny_9 g 0 (nI (wbr W)) (nI 1) τ = some (-nI 1, τ') ∧ wE pC qC σ τ σ' τ') ∨ (∃ j' W' σ' τ' g', f_X6_readOpening_0 f 260 σ = some (nI 1, σ') ∧ f_X12_readAny_9 g 0 (nI (wbr W)) (nI 1) τ = f_X12_readAny_9 g' 0 (nI (wbr W')) (nI 1) τ' ∧ M + 2 ≤ g' + j' ∧ wTc M TS TV TF j' σ' ∧ RM j' τ' ∧ wWc W' σ' ∧ wWm W' τ' ∧ wWf W' ∧ wop W' ≤ 8 ∧ ¬ (TS j' = 4 ∧ TV j' = 40) ∧ ¬ (TS j' = 2 ∧ TV j' = 6) ∧ j ≤ j' ∧ W'.length + j = W.length + j' ∧ wto W' = wto W ∧ wFx pO σ σ' ∧ wFx qO τ τ') := by
  obtain ⟨hM, hM0, hv⟩ := id hO
  intro d
  induction d with
  | zero =>
    intro j W σ τ f g hd hf hg hc hm wc wm wf w8
    obtain ⟨f, rfl⟩ : ∃ k, f = k + 1 := ⟨f - 1, by omega⟩
    obtain ⟨jM, h6, h7, hk⟩ := id hc
    obtain ⟨k1, k2, k3⟩ := hk j jM
    obtain rfl : j = M := by omega
    rw [hM0] at k1
    have k1 : σ 262 j = nI 1 := k1
    exact Or.inr ⟨j, W, σ, τ, g, by simp -implicitDefEqProofs (disch := omega) only [e_X6_readOpening_0, e_X6_readOpening_0__1, e_X6_readOpening_0__2, h6, h7, k1, wx_bd, wx_let, wx_st, wx_lit, wx_ga, wx_sa, pk_mul, nI_add, wx_le, wx_lt, wx_eq, wx_en, wx_ne', wx_nn, wx_ltn, wx_len, wx_nlt, wx_nle, wx_bz0, wx_bz1, if_pos, if_neg, wx_ite, Nat.reduceEqDiff, eq_self, if_true, if_false, not_true_eq_false, not_false_eq_true], rfl, hg, hc, hm, wc, wm, wf, w8, by omega, by omega, Nat.le_refl _, rfl, rfl, wFx_r _ _, wFx_r _ _⟩
  | succ d ih =>
    intro j W σ τ f g hd hf hg hc hm wc wm wf w8
    obtain ⟨f, rfl⟩ : ∃ k, f = k + 1 := ⟨f - 1, by omega⟩
    obtain ⟨jM, h6, h7, hk⟩ := id hc
    obtain ⟨k1, k2, k3⟩ := hk j jM
    obtain ⟨r1, r2, r3⟩ := hI.1 j τ hm
    have hvj := hv j jM
    have kl := wKd_lt hvj
    have w26 := wWf_26 wf w8
    have b8 := wbr_le W
    obtain ⟨a13, a14, a15, aS⟩ := id wc
    obtain ⟨b32, b30, bS⟩ := id wm
    have e32 : Int32.ofNat 32 = nI 32 := rfl
    by_cases c9 : TS j = 2 ∧ TV j = 6
    · have jlt := wTo_lt hO jM (by omega)
      obtain ⟨g, rfl⟩ : ∃ k, g = k + 1 := ⟨g - 1, by omega⟩
      have y1 := wl_wd1 r1 r2 c9
      have k1 : σ 262 j = nI 272 := by rw [k1, (wKd_w hvj (r := 6) (by omega)).2 c9]; rfl
      by_cases o8 : wop W = 8
      · have fl := wl_fail hO hc (nI 3)
        have er := wl_errs (TF := TF) (j := j) r3 (nI 3)
        rw [o8] at a14 b30
        refine Or.inl ⟨_, _, ?_, ?_, wE_mk (wFx_r _ _) (wFx_r _ _) rfl rfl rfl rfl (nI 3) (nI (TF j))⟩
        · simp -implicitDefEqProofs (disch := omega) only [e_X6_readOpening_0, e_X6_readOpening_0__1, e_X6_readOpening_0__2, e_X6_readOpening_40, e_X6_readOpening_40__1, e_X6_readOpening_40__2, e_X6_readOpening_40__3, h6, h7, k1, a14, fl, wx_bd, wx_let, wx_st, wx_lit, wx_ga, wx_sa, pk_mul, nI_add, wx_le, wx_lt, wx_eq, wx_en, wx_ne', wx_nn, wx_ltn, wx_len, wx_nlt, wx_nle, wx_bz0, wx_bz1, if_pos, if_neg, wx_ite, Nat.reduceEqDiff, eq_self, if_true, if_false, not_true_eq_false, not_false_eq_true]
        · simp -implicitDefEqProofs (disch := omega) only [e_X12_readAny_9, e_X12_readAny_9__1, e_X12_readAny_9__2, e_X12_readAny_9__3, e_X12_readAny_9__4, e_X12_readAny_9__5, e_X12_readAny_9__6, e_X12_readAny_9__7, e_X12_readAny_9__8, e_X12_readAny_9__9, e_X12_readAny_9__10, e_X12_readAny_9__11, e_X12_readAny_9__12, e_X12_readAny_9__13, e_X12_readAny_9__14, e_X12_readAny_9__15, e_X12_readAny_9__16, e_X12_readAny_9__17, e_X12_readAny_9__18, e_X12_readAny_9__19, e_X12_readAny_9__20, e_X12_readAny_9__21, e_X12_readAny_9__22, e_X12_readAny_33, e_X12_readAny_33__1, e_X12_readAny_33__2, e_X12_readAny_33__3, y1, b30, er, wx_bd, wx_let, wx_st, wx_lit, wx_ga, wx_sa, pk_mul, nI_add, wx_le, wx_lt, wx_eq, wx_en, wx_ne', wx_nn, wx_ltn, wx_len, wx_nlt, wx_nle, wx_bz0, wx_bz1, if_pos, if_neg, wx_ite, Nat.reduceEqDiff, eq_self, if_true, if_false, not_true_eq_false, not_false_eq_true]
      · have hm1 : RM j (wg_u (wg_u (wg_u τ 0 30 (nI (wop W + 1))) 18 W.length (nI 9)) 0 32 (nI (W.length + 1))) := hI.2.1 j τ _ hm (fun a i q => by rw [wx_ur, if_neg (by omega), wx_ur, if_neg (by omega), wx_ur, if_neg (by omega)])
        obtain ⟨τ1, t1, t2, t3⟩ := hI.2.2 j _ jlt hm1
        have hc0 : wTc M TS TV TF j (wg_u (wg_u (wg_u (wg_u σ 260 14 (nI (wop W + 1))) 260 15 (nI (wbr W + 0))) 265 W.length (nI 272)) 260 13 (nI (W.length + 1))) := wTc_fr hc (fun a i q => by rw [wx_ur, if_neg (by omega), wx_ur, if_neg (by omega), wx_ur, if_neg (by omega), wx_ur, if_neg (by omega)])
        have hc1 := wTc_nx hc0 jlt
        have wc1 : wWc (9 :: W) (wg_u (wg_u (wg_u (wg_u (wg_u σ 260 14 (nI (wop W + 1))) 260 15 (nI (wbr W + 0))) 265 W.length (nI 272)) 260 13 (nI (W.length + 1))) 260 7 (nI (j + 1))) := ⟨by simp -implicitDefEqProofs (disch := omega) only [wx_uk, wx_un, pk_us, pk_un]; rfl, by simp -implicitDefEqProofs (disch := omega) only [wx_uk, wx_un, pk_us, pk_un]; rfl, by simp -implicitDefEqProofs (disch := omega) only [wx_uk, wx_un, pk_us, pk_un]; rfl, by simp -implicitDefEqProofs (disch := omega) only [wx_uk, wx_un, pk_us, pk_un]; rfl, wStk_fr (fun i hi => by simp -implicitDefEqProofs (disch := omega) only [wx_uk, wx_un, pk_us, pk_un]) aS⟩
        have wm1 : wWm (9 :: W) τ1 := ⟨by rw [t3 0 32 (by omega)]; simp -implicitDefEqProofs (disch := omega) only [wx_uk, wx_un, pk_us, pk_un]; rfl, by rw [t3 0 30 (by omega)]; simp -implicitDefEqProofs (disch := omega) only [wx_uk, wx_un, pk_us, pk_un]; rfl, by rw [t3 18 _ (by omega)]; simp -implicitDefEqProofs (disch := omega) only [wx_uk, wx_un, pk_us, pk_un]; rfl, wStk_fr (fun i hi => by rw [t3 18 _ (by omega)]; simp -implicitDefEqProofs (disch := omega) only [wx_uk, wx_un, pk_us, pk_un]) bS⟩
        have eC : f_X6_readOpening_0 (f + 1) 260 σ = f_X6_readOpening_0 f 260 (wg_u (wg_u (wg_u (wg_u (wg_u σ 260 14 (nI (wop W + 1))) 260 15 (nI (wbr W + 0))) 265 W.length (nI 272)) 260 13 (nI (W.length + 1))) 260 7 (nI (j + 1))) := by
          simp -implicitDefEqProofs (disch := omega) only [e_X6_readOpening_0, e_X6_readOpening_0__1, e_X6_readOpening_0__2, e_X6_readOpening_40, e_X6_readOpening_40__1, e_X6_readOpening_40__2, e_X6_readOpening_40__3, e_X6_readOpening_89, e_X6_readOpening_89__1, e_X6_readOpening_89__2, e_X6_readOpening_89__3, e_X6_readOpening_89__4, e_X6_await, e_X6_await__1, e_X6_await__2, e32, h6, h7, k1, a13, a14, a15, wx_uk, wx_un, pk_us, pk_un, wx_bd, wx_let, wx_st, wx_lit, wx_ga, wx_sa, pk_mul, nI_add, wx_le, wx_lt, wx_eq, wx_en, wx_ne', wx_nn, wx_ltn, wx_len, wx_nlt, wx_nle, wx_bz0, wx_bz1, if_pos, if_neg, wx_ite, Nat.reduceEqDiff, eq_self, if_true, if_false, not_true_eq_false, not_false_eq_true]
        have eM : f_X12_readAny_9 (g + 1) 0 (nI (wbr W)) (nI 1) τ = f_X12_readAny_9 g 0 (nI (wbr W + 0)) (nI 1) τ1 := by
          simp -implicitDefEqProofs (disch := omega) only [e_X12_readAny_9, e_X12_readAny_9__1, e_X12_readAny_9__2, e_X12_readAny_9__3, e_X12_readAny_9__4, e_X12_readAny_9__5, e_X12_readAny_9__6, e_X12_readAny_9__7, e_X12_readAny_9__8, e_X12_readAny_9__9, e_X12_readAny_9__10, e_X12_readAny_9__11, e_X12_readAny_9__12, e_X12_readAny_9__13, e_X12_readAny_9__14, e_X12_readAny_9__15, e_X12_readAny_9__16, e_X12_readAny_9__17, e_X12_readAny_9__18, e_X12_readAny_9__19, e_X12_readAny_9__20, e_X12_readAny_9__21, e_X12_readAny_9__22, e_X12_readAny_33, e_X12_readAny_33__1, e_X12_readAny_33__2, e_X12_readAny_33__3, e_X12_readAny_66, e_X12_readAny_78, e_X12_readAny_78__1, e_X12_readAny_78__2, e_X12_waits, e_X12_waits__1, e_X12_waits__2, y1, b30, b32, t1, wx_uk, wx_un, pk_us, pk_un, wx_bd, wx_let, wx_st, wx_lit, wx_ga, wx_sa, pk_mul, nI_add, wx_le, wx_lt, wx_eq, wx_en, wx_ne', wx_nn, wx_ltn, wx_len, wx_nlt, wx_nle, wx_bz0, wx_bz1, if_pos, if_neg, wx_ite, Nat.reduceEqDiff, eq_self, if_true, if_false, not_true_eq_false, not_false_eq_true]
          try rfl
        have fσ : wFx pO σ (wg_u (wg_u (wg_u (wg_u (wg_u σ 260 14 (nI (wop W + 1))) 260 15 (nI (wbr W + 0))) 265 W.length (nI 272)) 260 13 (nI (W.length + 1))) 260 7 (nI (j + 1))) := wFx_u (wFx_u (wFx_u (wFx_u (wFx_u (wFx_r _ _) rfl) rfl) rfl) rfl) rfl
        have fτ : wFx qO τ τ1 := wFx_t (wFx_u (wFx_u (wFx_u (wFx_r _ _) rfl) rfl) rfl) (wFx_rdO t3)
        have eb : wbr (9 :: W) = wbr W + 0 := rfl
        have ew : wop (9 :: W) = wop W + 1 := rfl
        rw [eC, eM]
        rcases ih (j + 1) (9 :: W) _ τ1 f g (by omega) (by omega) (by omega) hc1 t2 wc1 wm1 ⟨Or.inl rfl, wf⟩ (by rw [ew]; omega) with ⟨σ2, τ2, z1, z2, z3⟩ | ⟨j2, W2, σ2, τ2, g2, z1, z2, z3, z4, z5, z6, z7, z8, z9, z10, z11, z12, z13, z14, z15, z16⟩
        · exact Or.inl ⟨σ2, τ2, z1, z2, wE_t (wFx_m pOC fσ) (wFx_m qOC fτ) z3⟩
        · have et : wto (9 :: W) = wto W := rfl
          exact Or.inr ⟨j2, W2, σ2, τ2, g2, z1, z2, z3, z4, z5, z6, z7, z8, z9, z10, z11, by omega, by simp only [List.length_cons] at z13; omega, z14.trans et, wFx_t fσ z15, wFx_t fτ z16⟩
    have y1 := wl_wd0 (c := 6) hO jM (by omega) r1 r2 c9
    have kn9 : wKd (TS j) (TV j) ≠ 272 := fun q => c9 ((wKd_w hvj (r := 6) (by omega)).1 q)
    by_cases c12 : TS j = 4 ∧ TV j = 40
    · have jlt := wTo_lt hO jM (by omega)
      obtain ⟨g, rfl⟩ : ∃ k, g = k + 1 := ⟨g - 1, by omega⟩
      have y2 := wl_sg1 r1 r2 c12
      have k1 : σ 262 j = nI 40 := by rw [k1, (wKd_s hvj (c := 40) (by omega) (by omega)).2 c12]
      by_cases o8 : wop W = 8
      · have fl := wl_fail hO hc (nI 3)
        have er := wl_errs (TF := TF) (j := j) r3 (nI 3)
        rw [o8] at a14 b30
        refine Or.inl ⟨_, _, ?_, ?_, wE_mk (wFx_r _ _) (wFx_r _ _) rfl rfl rfl rfl (nI 3) (nI (TF j))⟩
        · simp -implicitDefEqProofs (disch := omega) only [e_X6_readOpening_0, e_X6_readOpening_0__1, e_X6_readOpening_0__2, e_X6_readOpening_40, e_X6_readOpening_40__1, e_X6_readOpening_40__2, e_X6_readOpening_40__3, h6, h7, k1, a14, fl, wx_bd, wx_let, wx_st, wx_lit, wx_ga, wx_sa, pk_mul, nI_add, wx_le, wx_lt, wx_eq, wx_en, wx_ne', wx_nn, wx_ltn, wx_len, wx_nlt, wx_nle, wx_bz0, wx_bz1, if_pos, if_neg, wx_ite, Nat.reduceEqDiff, eq_self, if_true, if_false, not_true_eq_false, not_false_eq_true]
        · simp -implicitDefEqProofs (disch := omega) only [e_X12_readAny_9, e_X12_readAny_9__1, e_X12_readAny_9__2, e_X12_readAny_9__3, e_X12_readAny_9__4, e_X12_readAny_9__5, e_X12_readAny_9__6, e_X12_readAny_9__7, e_X12_readAny_9__8, e_X12_readAny_9__9, e_X12_readAny_9__10, e_X12_readAny_9__11, e_X12_readAny_9__12, e_X12_readAny_9__13, e_X12_readAny_9__14, e_X12_readAny_9__15, e_X12_readAny_9__16, e_X12_readAny_9__17, e_X12_readAny_9__18, e_X12_readAny_9__19, e_X12_readAny_9__20, e_X12_readAny_9__21, e_X12_readAny_9__22, e_X12_readAny_33, e_X12_readAny_33__1, e_X12_readAny_33__2, e_X12_readAny_33__3, y1, y2, b30, er, wx_bd, wx_let, wx_st, wx_lit, wx_ga, wx_sa, pk_mul, nI_add, wx_le, wx_lt, wx_eq, wx_en, wx_ne', wx_nn, wx_ltn, wx_len, wx_nlt, wx_nle, wx_bz0, wx_bz1, if_pos, if_neg, wx_ite, Nat.reduceEqDiff, eq_self, if_true, if_false, not_true_eq_false, not_false_eq_true]
      · have hm1 : RM j (wg_u (wg_u (wg_u τ 0 30 (nI (wop W + 1))) 18 W.length (nI 12)) 0 32 (nI (W.length + 1))) := hI.2.1 j τ _ hm (fun a i q => by rw [wx_ur, if_neg (by omega), wx_ur, if_neg (by omega), wx_ur, if_neg (by omega)])
        obtain ⟨τ1, t1, t2, t3⟩ := hI.2.2 j _ jlt hm1
        have hc0 : wTc M TS TV TF j (wg_u (wg_u (wg_u (wg_u σ 260 14 (nI (wop W + 1))) 260 15 (nI (wbr W + 1))) 265 W.length (nI 40)) 260 13 (nI (W.length + 1))) := wTc_fr hc (fun a i q => by rw [wx_ur, if_neg (by omega), wx_ur, if_neg (by omega), wx_ur, if_neg (by omega), wx_ur, if_neg (by omega)])
        have hc1 := wTc_nx hc0 jlt
        have wc1 : wWc (12 :: W) (wg_u (wg_u (wg_u (wg_u (wg_u σ 260 14 (nI (wop W + 1))) 260 15 (nI (wbr W + 1))) 265 W.length (nI 40)) 260 13 (nI (W.length + 1))) 260 7 (nI (j + 1))) := ⟨by simp -implicitDefEqProofs (disch := omega) only [wx_uk, wx_un, pk_us, pk_un]; rfl, by simp -implicitDefEqProofs (disch := omega) only [wx_uk, wx_un, pk_us, pk_un]; rfl, by simp -implicitDefEqProofs (disch := omega) only [wx_uk, wx_un, pk_us, pk_un]; rfl, by simp -implicitDefEqProofs (disch := omega) only [wx_uk, wx_un, pk_us, pk_un]; rfl, wStk_fr (fun i hi => by simp -implicitDefEqProofs (disch := omega) only [wx_uk, wx_un, pk_us, pk_un]) aS⟩
        have wm1 : wWm (12 :: W) τ1 := ⟨by rw [t3 0 32 (by omega)]; simp -implicitDefEqProofs (disch := omega) only [wx_uk, wx_un, pk_us, pk_un]; rfl, by rw [t3 0 30 (by omega)]; simp -implicitDefEqProofs (disch := omega) only [wx_uk, wx_un, pk_us, pk_un]; rfl, by rw [t3 18 _ (by omega)]; simp -implicitDefEqProofs (disch := omega) only [wx_uk, wx_un, pk_us, pk_un]; rfl, wStk_fr (fun i hi => by rw [t3 18 _ (by omega)]; simp -implicitDefEqProofs (disch := omega) only [wx_uk, wx_un, pk_us, pk_un]) bS⟩
        have eC : f_X6_readOpening_0 (f + 1) 260 σ = f_X6_readOpening_0 f 260 (wg_u (wg_u (wg_u (wg_u (wg_u σ 260 14 (nI (wop W + 1))) 260 15 (nI (wbr W + 1))) 265 W.length (nI 40)) 260 13 (nI (W.length + 1))) 260 7 (nI (j + 1))) := by
          simp -implicitDefEqProofs (disch := omega) only [e_X6_readOpening_0, e_X6_readOpening_0__1, e_X6_readOpening_0__2, e_X6_readOpening_40, e_X6_readOpening_40__1, e_X6_readOpening_40__2, e_X6_readOpening_40__3, e_X6_readOpening_89, e_X6_readOpening_89__1, e_X6_readOpening_89__2, e_X6_readOpening_89__3, e_X6_readOpening_89__4, e_X6_await, e_X6_await__1, e_X6_await__2, e32, h6, h7, k1, a13, a14, a15, wx_uk, wx_un, pk_us, pk_un, wx_bd, wx_let, wx_st, wx_lit, wx_ga, wx_sa, pk_mul, nI_add, wx_le, wx_lt, wx_eq, wx_en, wx_ne', wx_nn, wx_ltn, wx_len, wx_nlt, wx_nle, wx_bz0, wx_bz1, if_pos, if_neg, wx_ite, Nat.reduceEqDiff, eq_self, if_true, if_false, not_true_eq_false, not_false_eq_true]
        have eM : f_X12_readAny_9 (g + 1) 0 (nI (wbr W)) (nI 1) τ = f_X12_readAny_9 g 0 (nI (wbr W + 1)) (nI 1) τ1 := by
          simp -implicitDefEqProofs (disch := omega) only [e_X12_readAny_9, e_X12_readAny_9__1, e_X12_readAny_9__2, e_X12_readAny_9__3, e_X12_readAny_9__4, e_X12_readAny_9__5, e_X12_readAny_9__6, e_X12_readAny_9__7, e_X12_readAny_9__8, e_X12_readAny_9__9, e_X12_readAny_9__10, e_X12_readAny_9__11, e_X12_readAny_9__12, e_X12_readAny_9__13, e_X12_readAny_9__14, e_X12_readAny_9__15, e_X12_readAny_9__16, e_X12_readAny_9__17, e_X12_readAny_9__18, e_X12_readAny_9__19, e_X12_readAny_9__20, e_X12_readAny_9__21, e_X12_readAny_9__22, e_X12_readAny_33, e_X12_readAny_33__1, e_X12_readAny_33__2, e_X12_readAny_33__3, e_X12_readAny_66, e_X12_readAny_78, e_X12_readAny_78__1, e_X12_readAny_78__2, e_X12_waits, e_X12_waits__1, e_X12_waits__2, y1, y2, b30, b32, t1, wx_uk, wx_un, pk_us, pk_un, wx_bd, wx_let, wx_st, wx_lit, wx_ga, wx_sa, pk_mul, nI_add, wx_le, wx_lt, wx_eq, wx_en, wx_ne', wx_nn, wx_ltn, wx_len, wx_nlt, wx_nle, wx_bz0, wx_bz1, if_pos, if_neg, wx_ite, Nat.reduceEqDiff, eq_self, if_true, if_false, not_true_eq_false, not_false_eq_true]
        have fσ : wFx pO σ (wg_u (wg_u (wg_u (wg_u (wg_u σ 260 14 (nI (wop W + 1))) 260 15 (nI (wbr W + 1))) 265 W.length (nI 40)) 260 13 (nI (W.length + 1))) 260 7 (nI (j + 1))) := wFx_u (wFx_u (wFx_u (wFx_u (wFx_u (wFx_r _ _) rfl) rfl) rfl) rfl) rfl
        have fτ : wFx qO τ τ1 := wFx_t (wFx_u (wFx_u (wFx_u (wFx_r _ _) rfl) rfl) rfl) (wFx_rdO t3)
        have eb : wbr (12 :: W) = wbr W + 1 := rfl
        have ew : wop (12 :: W) = wop W + 1 := rfl
        rw [eC, eM]
        rcases ih (j + 1) (12 :: W) _ τ1 f g (by omega) (by omega) (by omega) hc1 t2 wc1 wm1 ⟨Or.inr (Or.inl rfl), wf⟩ (by rw [ew]; omega) with ⟨σ2, τ2, z1, z2, z3⟩ | ⟨j2, W2, σ2, τ2, g2, z1, z2, z3, z4, z5, z6, z7, z8, z9, z10, z11, z12, z13, z14, z15, z16⟩
        · exact Or.inl ⟨σ2, τ2, z1, z2, wE_t (wFx_m pOC fσ) (wFx_m qOC fτ) z3⟩
        · have et : wto (12 :: W) = wto W := rfl
          exact Or.inr ⟨j2, W2, σ2, τ2, g2, z1, z2, z3, z4, z5, z6, z7, z8, z9, z10, z11, by omega, by simp only [List.length_cons] at z13; omega, z14.trans et, wFx_t fσ z15, wFx_t fτ z16⟩
    have kn12 : wKd (TS j) (TV j) ≠ 40 := fun q => c12 ((wKd_s hvj (by omega) (by omega)).1 q)
    generalize wKd (TS j) (TV j) = K at *
    exact Or.inr ⟨j, W, σ, τ, g, by simp -implicitDefEqProofs (disch := omega) only [e_X6_readOpening_0, e_X6_readOpening_0__1, e_X6_readOpening_0__2, h6, h7, k1, wx_bd, wx_let, wx_st, wx_lit, wx_ga, wx_sa, pk_mul, nI_add, wx_le, wx_lt, wx_eq, wx_en, wx_ne', wx_nn, wx_ltn, wx_len, wx_nlt, wx_nle, wx_bz0, wx_bz1, if_pos, if_neg, wx_ite, Nat.reduceEqDiff, eq_self, if_true, if_false, not_true_eq_false, not_false_eq_true], rfl, hg, hc, hm, wc, wm, wf, w8, c12, c9, Nat.le_refl _, rfl, rfl, wFx_r _ _, wFx_r _ _⟩
set_option maxHeartbeats 1000000 in
/-- the class: an and that waits is put; an or if no and comes -/
theorem wl_s58 {j : Nat} {W : List Nat} {C : List (Nat × Int32)} {σ : wg_M} (hO : wTo M TS TV) (hc : wTc M TS TV TF j σ) (wc : wWc W σ) (cc : wCc C σ) (wf : wWf W) (hl32 : W.length ≤ 32) (h9 : whd W ≠ 9) (hl : wo_l C + W.length ≤ 400) : ∃ σ', f_X6_settle_58 260 σ = some (nI 0, σ') ∧ wTc M TS TV TF j σ' ∧ ((TS j = 2 ∧ TV j = 5 ∧ wWc (wpW 10 W) σ' ∧ wCc (C ++ wpD 10 W) σ') ∨ (¬ (TS j = 2 ∧ TV j = 5) ∧ wWc (wpW 11 (wpW 10 W)) σ' ∧ wCc ((C ++ wpD 10 W) ++ wpD 11 (wpW 10 W)) σ')) ∧ ∀ a i, ¬ (a = 260 ∧ i = 13) → ¬ (a = 266 ∧ i = 2) → a ≠ 267 → a ≠ 268 → σ' a i = σ a i := by
  have c10 : nI (wcd 10) = nI 271 := rfl
  have c11 : nI (wcd 11) = nI 270 := rfl
  have n10 : ¬ nI 1 = nI 0 := by decide
  have first : ∃ σ1, f_X6_settle_58 260 σ = f_X6_settle_89 260 σ1 ∧ wWc (wpW 10 W) σ1 ∧ wCc (C ++ wpD 10 W) σ1 ∧ ∀ a i, ¬ (a = 260 ∧ i = 13) → ¬ (a = 266 ∧ i = 2) → a ≠ 267 → a ≠ 268 → σ1 a i = σ a i := by
    have ia := wl_isA wf hl32 wc (k := 10) (Or.inl rfl)
    rw [c10] at ia
    by_cases q : whd W = 10
    · rw [if_pos q] at ia
      obtain ⟨σ1, σ2, p1, p2, p3, p4, p5, p6⟩ := wl_pC (Or.inl rfl) wf hl32 wc cc hl q
      rw [c10] at p1
      refine ⟨σ2, ?_, p4, p5, p6⟩
      rw [p3]
      simp -implicitDefEqProofs (disch := omega) only [e_X6_settle_58, e_X6_settle_58__1, e_X6_settle_58__2, e_X6_settle_58__3, ia, n10, p1, p2, wx_bd, wx_let, wx_st, wx_lit, wx_ga, wx_sa, pk_mul, nI_add, wx_le, wx_lt, wx_eq, wx_en, wx_ne', wx_nn, wx_ltn, wx_len, wx_nlt, wx_nle, wx_bz0, wx_bz1, if_pos, if_neg, wx_ite, Nat.reduceEqDiff, eq_self, if_true, if_false, not_true_eq_false, not_false_eq_true]
    · rw [if_neg q] at ia
      have e1 : wpW 10 W = W := by
        rcases W with _ | ⟨x, R⟩
        · rfl
        · exact if_neg q
      have e2 : wpD 10 W = [] := by
        rcases W with _ | ⟨x, R⟩
        · rfl
        · exact if_neg q
      rw [e1, e2]
      exact ⟨σ, by simp -implicitDefEqProofs (disch := omega) only [e_X6_settle_58, e_X6_settle_58__1, e_X6_settle_58__2, e_X6_settle_58__3, ia, wx_bd, wx_let, wx_st, wx_lit, wx_ga, wx_sa, pk_mul, nI_add, wx_le, wx_lt, wx_eq, wx_en, wx_ne', wx_nn, wx_ltn, wx_len, wx_nlt, wx_nle, wx_bz0, wx_bz1, if_pos, if_neg, wx_ite, Nat.reduceEqDiff, eq_self, if_true, if_false, not_true_eq_false, not_false_eq_true], wc, by simpa using cc, fun _ _ _ _ _ _ => rfl⟩
  obtain ⟨σ1, f1, f2, f3, f4⟩ := first
  have hc1 : wTc M TS TV TF j σ1 := wTc_fr hc (fun a i q => f4 a i (by omega) (by omega) (by omega) (by omega))
  obtain ⟨jM, h6, h7, hk⟩ := id hc1
  obtain ⟨k1, k2, k3⟩ := hk j jM
  have hvj := hO.2.2 j jM
  have kl := wKd_lt hvj
  have hM := hO.1
  obtain ⟨wf1, -, -, wl1, -⟩ := wpW_f (k := 10) (Or.inl rfl) W wf
  rw [f1]
  by_cases cA : TS j = 2 ∧ TV j = 5
  · have k1 : σ1 262 j = nI 271 := by rw [k1, (wKd_w hvj (r := 5) (by omega)).2 cA]; rfl
    exact ⟨σ1, by simp -implicitDefEqProofs (disch := omega) only [e_X6_settle_89, e_X6_settle_89__1, e_X6_settle_89__2, e_X6_settle_89__3, e_X6_settle_89__4, h7, k1, wx_bd, wx_let, wx_st, wx_lit, wx_ga, wx_sa, pk_mul, nI_add, wx_le, wx_lt, wx_eq, wx_en, wx_ne', wx_nn, wx_ltn, wx_len, wx_nlt, wx_nle, wx_bz0, wx_bz1, if_pos, if_neg, wx_ite, Nat.reduceEqDiff, eq_self, if_true, if_false, not_true_eq_false, not_false_eq_true], hc1, Or.inl ⟨cA.1, cA.2, f2, f3⟩, f4⟩
  · have kn : wKd (TS j) (TV j) ≠ 271 := fun q => cA ((wKd_w hvj (r := 5) (by omega)).1 q)
    have ia := wl_isA wf1 (by omega) f2 (k := 11) (Or.inr rfl)
    rw [c11] at ia
    generalize wKd (TS j) (TV j) = K at *
    by_cases q : whd (wpW 10 W) = 11
    · rw [if_pos q] at ia
      obtain ⟨σ2, σ3, p1, p2, p3, p4, p5, p6⟩ := wl_pC (Or.inr rfl) wf1 (by omega) f2 f3 (by rw [wo_l_app]; omega) q
      rw [c11] at p1
      refine ⟨σ3, ?_, wTc_fr hc1 (fun a i z => p6 a i (by omega) (by omega) (by omega) (by omega)), Or.inr ⟨cA, p4, p5⟩, fun a i q1 q2 q3 q4 => (p6 a i q1 q2 q3 q4).trans (f4 a i q1 q2 q3 q4)⟩
      rw [p3]
      simp -implicitDefEqProofs (disch := omega) only [e_X6_settle_89, e_X6_settle_89__1, e_X6_settle_89__2, e_X6_settle_89__3, e_X6_settle_89__4, h7, k1, ia, n10, p1, p2, wx_bd, wx_let, wx_st, wx_lit, wx_ga, wx_sa, pk_mul, nI_add, wx_le, wx_lt, wx_eq, wx_en, wx_ne', wx_nn, wx_ltn, wx_len, wx_nlt, wx_nle, wx_bz0, wx_bz1, if_pos, if_neg, wx_ite, Nat.reduceEqDiff, eq_self, if_true, if_false, not_true_eq_false, not_false_eq_true]
    · rw [if_neg q] at ia
      have e1 : wpW 11 (wpW 10 W) = wpW 10 W := by
        generalize wpW 10 W = V at *
        rcases V with _ | ⟨x, R⟩
        · rfl
        · exact if_neg q
      have e2 : wpD 11 (wpW 10 W) = [] := by
        generalize wpW 10 W = V at *
        rcases V with _ | ⟨x, R⟩
        · rfl
        · exact if_neg q
      rw [e1, e2]
      exact ⟨σ1, by simp -implicitDefEqProofs (disch := omega) only [e_X6_settle_89, e_X6_settle_89__1, e_X6_settle_89__2, e_X6_settle_89__3, e_X6_settle_89__4, h7, k1, ia, wx_bd, wx_let, wx_st, wx_lit, wx_ga, wx_sa, pk_mul, nI_add, wx_le, wx_lt, wx_eq, wx_en, wx_ne', wx_nn, wx_ltn, wx_len, wx_nlt, wx_nle, wx_bz0, wx_bz1, if_pos, if_neg, wx_ite, Nat.reduceEqDiff, eq_self, if_true, if_false, not_true_eq_false, not_false_eq_true], hc1, Or.inr ⟨cA, f2, by simpa using f3⟩, f4⟩
end OP

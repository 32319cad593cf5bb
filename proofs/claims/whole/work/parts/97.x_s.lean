def qE (a i : Nat) : Bool := qS a i || (a == 21 && decide (8 ≤ i))
set_option maxHeartbeats 1000000 in
theorem qSE (a i : Nat) (h : qS a i = true) : qE a i = true := by simp [qE, h]
set_option maxHeartbeats 1000000 in
theorem qEN (a i : Nat) (h : qE a i = true) : qN a i = true := by
  simp only [qE, Bool.or_eq_true, Bool.and_eq_true, beq_iff_eq, decide_eq_true_eq] at h
  simp only [qN, Bool.or_eq_true, Bool.and_eq_true, beq_iff_eq, decide_eq_true_eq]
  rcases h with h | h
  · exact Or.inl (Or.inl (Or.inl h))
  · exact Or.inr h
set_option maxHeartbeats 1000000 in
theorem wE_SE {n : Nat} {σ τ σ' τ' : wg_M} (h : wE pS qS σ τ σ' τ') : wE (pI n) qE σ τ σ' τ' := ⟨wFx_m (wU8_m pSI) h.1, wFx_m qSE h.2.1, h.2.2⟩
def wKl (n : Nat) (σ τ : wg_M) : Prop := (∀ i, i < n → (∃ a, a < 8 ∧ σ 277 i = nI a) ∧ ∃ a, a < 8 ∧ σ 278 i = nI a) ∧ ∀ w, w < 8 → (∃ i, i < n ∧ σ 277 i = nI w ∧ (∀ k, k < i → σ 277 k ≠ nI w) ∧ τ 21 (8 + w) = σ 278 i + nI 1) ∨ ((∀ i, i < n → σ 277 i ≠ nI w) ∧ τ 21 (8 + w) = nI 0)
set_option maxHeartbeats 1000000 in
theorem wKl_s {n a b : Nat} {σ τ σ' τ' : wg_M} (ha : a < 8) (hb : b < 8) (h : wKl n σ τ) (e1 : σ' 277 n = nI a) (e2 : σ' 278 n = nI b) (f1 : ∀ i, i < n → σ' 277 i = σ 277 i) (f2 : ∀ i, i < n → σ' 278 i = σ 278 i) (g1 : ∀ w, w < 8 → w ≠ a → τ' 21 (8 + w) = τ 21 (8 + w)) (g2 : τ 21 (8 + a) = nI 0 → τ' 21 (8 + a) = nI (b + 1)) (g3 : τ 21 (8 + a) ≠ nI 0 → τ' 21 (8 + a) = τ 21 (8 + a)) : wKl (n + 1) σ' τ' := by
  obtain ⟨h1, h2⟩ := h
  refine ⟨fun i hi => ?_, fun w hw => ?_⟩
  · by_cases e : i = n
    · subst e; exact ⟨⟨a, ha, e1⟩, b, hb, e2⟩
    · rw [f1 i (by omega), f2 i (by omega)]; exact h1 i (by omega)
  · rcases h2 w hw with ⟨i, i1, i2, i3, i4⟩ | ⟨i1, i2⟩
    · refine Or.inl ⟨i, by omega, by rw [f1 i i1]; exact i2, fun k hk => by rw [f1 k (by omega)]; exact i3 k hk, ?_⟩
      rw [f2 i i1, ← i4]
      by_cases e : w = a
      · subst e
        refine g3 ?_
        obtain ⟨-, x, hx, ex⟩ := h1 i i1
        rw [i4, ex, nI_add]
        intro q
        rw [nI_eq (by omega) (by omega)] at q
        omega
      · exact g1 w hw e
    · by_cases e : w = a
      · subst e
        refine Or.inl ⟨n, by omega, e1, fun k hk => by rw [f1 k hk]; exact i1 k hk, ?_⟩
        rw [g2 i2, e2, nI_add]
      · refine Or.inr ⟨fun i hi => ?_, by rw [g1 w hw e]; exact i2⟩
        by_cases ei : i = n
        · subst ei
          rw [e1]
          intro q
          rw [nI_eq (by omega) (by omega)] at q
          omega
        · rw [f1 i (by omega)]; exact i1 i (by omega)
section KN
variable {M : Nat} {TS TV TF : Nat → Nat} {RM : Nat → wg_M → Prop} {nw : Nat}
set_option maxHeartbeats 1000000 in
theorem wl_knl (hO : wTo M TS TV) (hI : wTi M TS TV TF RM) {j n : Nat} {σ τ : wg_M} (hn : n < 16) (hw8 : nw ≤ 8) (hc : wTc M TS TV TF j σ) (hm : RM j τ) (h4 : σ 274 4 = nI n) (s28 : σ 2 8 = nI nw) (t6 : τ 0 6 = nI nw) (hl : wKl n σ τ) (hin : TS j = 2 ∧ TV j = 20) : (∃ σ' τ' j', f_X6_readKinLine 260 σ = some (nI 1, σ') ∧ f_X12_readKinLine 0 τ = some (nI 0, τ') ∧ wTc M TS TV TF j' σ' ∧ RM j' τ' ∧ j < j' ∧ σ' 274 4 = nI (n + 1) ∧ wKl (n + 1) σ' τ' ∧ wFx (pI n) σ σ' ∧ wFx qE τ τ') ∨ (∃ σ' τ', f_X6_readKinLine 260 σ = some (nI 0, σ') ∧ f_X12_readKinLine 0 τ = some (-nI 1, τ') ∧ wE (pI n) qE σ τ σ' τ') := by
  obtain ⟨hM, hM0, hv⟩ := id hO
  obtain ⟨jM, h6, h7, hk⟩ := id hc
  obtain ⟨k1, -, -⟩ := hk j jM
  have hvj := hv j jM
  have k1 : σ 262 j = nI 276 := by rw [k1, (wKd_w hvj (r := 20) (by omega)).2 hin]; rfl
  have nm : ∀ x : Nat, x ≤ 9999 → ¬ nI x = -nI 1 := fun x hx => by rw [wx_en (by omega) (by omega) (by omega)]; exact fun q => q
  have q4 : qE 0 16 = true ∧ qE 0 17 = true ∧ qE 0 18 = true ∧ qE 0 19 = true := ⟨rfl, rfl, rfl, rfl⟩
  have sX : ∀ x : Int32, (wg_u σ 260 7 x) 2 8 = nI nw := fun x => by rw [wx_un (by omega)]; exact s28
  rcases wl_wn hO hI hc hm (w := 20) (by omega) (nI 0) (nI nw - nI 1) with ⟨a, σ1, τ1, -, -, a3, a4, a5, a6, a7, a8, a9, a10, a11, a12⟩ | ⟨σ1, τ1, q, -⟩ | ⟨σ1, τ1, -, -, a3, a4, a5, a6⟩
  · have a6 : f_X6_expect 260 (nI 276) σ = some (nI 1, wg_u σ 260 7 (nI (j + 1))) := a6
    have na := nm a a3
    have alt := wx_upto (by omega) a5 (by omega)
    have fσ1 : wFx (pI n) σ σ1 := wFx_7 rfl a11
    have fτ1 : wFx qE τ τ1 := wFx_19 q4 a12
    obtain ⟨j1M, g6, g7, gk⟩ := id a9
    obtain ⟨l1, -, -⟩ := gk (j + 2) j1M
    obtain ⟨r1, r2, r3⟩ := hI.1 (j + 2) τ1 a10
    have hv1 := hv (j + 2) j1M
    by_cases cO : TS (j + 2) = 2 ∧ TV (j + 2) = 25
    · have jlt := wTo_lt hO j1M (by omega)
      have ex := wl_exp1 hO a9 ((wKd_w hv1 (r := 25) (by omega)).2 cO)
      have ex : f_X6_expect 260 (nI 281) σ1 = some (nI 1, wg_u σ1 260 7 (nI (j + 2 + 1))) := ex
      have y25 := wl_wd1 r1 r2 cO
      have hc2 := wTc_nx a9 jlt
      obtain ⟨τ2, t1, t2, t3⟩ := hI.2.2 (j + 2) τ1 jlt a10
      obtain ⟨j2M, u6, u7, uk⟩ := id hc2
      obtain ⟨v1, v2, -⟩ := uk (j + 2 + 1) j2M
      obtain ⟨m1, m2, m3⟩ := hI.1 (j + 2 + 1) τ2 t2
      have hv2 := hv (j + 2 + 1) j2M
      have kl2 := wKd_lt hv2
      have fσ2 : wFx (pI n) σ (wg_u σ1 260 7 (nI (j + 2 + 1))) := wFx_u fσ1 rfl
      have fτ2 : wFx qE τ τ2 := wFx_t fτ1 (wFx_19 q4 t3)
      have s2 : (wg_u σ1 260 7 (nI (j + 2 + 1))) 2 8 = nI nw := by rw [wx_un (by omega), a11 2 8 (by omega)]; exact s28
      have s4 : (wg_u σ1 260 7 (nI (j + 2 + 1))) 274 4 = nI n := by rw [wx_un (by omega), a11 274 4 (by omega)]; exact h4
      have t26 : τ2 0 6 = nI nw := by rw [t3 0 6 (by omega), a12 0 6 (by omega)]; exact t6
      generalize hS : wg_u σ1 260 7 (nI (j + 2 + 1)) = σ2 at *
      by_cases cS : TS (j + 2 + 1) = 3 ∧ TV (j + 2 + 1) = a
      · have fl := wl_fail hO hc2 (nI 2)
        have er := wl_errs (TF := TF) (j := j + 2 + 1) m3 (nI 2)
        rw [(wKd_n hv2).2 cS.1] at v1
        have v2 := v2 cS.1
        have m2 := m2 (by omega)
        rw [cS.2] at v2 m2
        rw [cS.1] at m1
        refine Or.inr ⟨_, _, ?_, ?_, wE_t fσ2 fτ2 (wE_mk (wFx_r _ _) (wFx_r _ _) rfl rfl rfl rfl (nI 2) (nI (TF (j + 2 + 1))))⟩
        · simp -implicitDefEqProofs (disch := omega) only [e_X6_readKinLine, e_X6_readKinLine__1, e_X6_readKinLine__2, e_X6_readKinLine__3, e_X6_readKinLine__4, e_X6_readKinLine__5, e_X6_readKinLine__6, e_X6_expectFirst, e_X6_expectFirst__1, e_X6_expectFirst__2, e_X6_expectFirst_25, e_X6_expectFirst_25__1, e_X6_readWig, e_X6_readWig__1, h4, h7, k1, a6, sX, a7, na, ex, u7, v1, v2, fl, wx_bd, wx_let, wx_st, wx_lit, wx_ga, wx_sa, pk_mul, nI_add, wx_le, wx_lt, wx_eq, wx_en, wx_ne', wx_nn, wx_ltn, wx_len, wx_nlt, wx_nle, wx_bz0, wx_bz1, if_pos, if_neg, wx_ite, Nat.reduceEqDiff, eq_self, if_true, if_false, not_true_eq_false, not_false_eq_true]
        · simp -implicitDefEqProofs (disch := omega) only [e_X12_readKinLine, e_X12_readKinLine__1, e_X12_readKinLine__2, e_X12_readKinLine__3, e_X12_readKinLine__4, e_X12_readKinLine__5, t6, a8, na, y25, t1, m1, m2, er, wx_bd, wx_let, wx_st, wx_lit, wx_ga, wx_sa, pk_mul, nI_add, wx_le, wx_lt, wx_eq, wx_en, wx_ne', wx_nn, wx_ltn, wx_len, wx_nlt, wx_nle, wx_bz0, wx_bz1, if_pos, if_neg, wx_ite, Nat.reduceEqDiff, eq_self, if_true, if_false, not_true_eq_false, not_false_eq_true]
      · have eC : f_X6_readKinLine 260 σ = f_X6_readKinLine_73 260 (nI a) σ2 := by
          by_cases z : TS (j + 2 + 1) = 3
          · rw [(wKd_n hv2).2 z] at v1
            have v2 := v2 z
            have z2 : TV (j + 2 + 1) ≠ a := fun q => cS ⟨z, q⟩
            have z3 : TV (j + 2 + 1) ≤ 9999 := by unfold wTv at hv2; omega
            simp -implicitDefEqProofs (disch := omega) only [e_X6_readKinLine, e_X6_readKinLine__1, e_X6_readKinLine__2, e_X6_readKinLine__3, e_X6_readKinLine__4, e_X6_readKinLine__5, e_X6_readKinLine__6, e_X6_expectFirst, e_X6_expectFirst__1, e_X6_expectFirst__2, e_X6_expectFirst_25, e_X6_expectFirst_25__1, e_X6_readWig, e_X6_readWig__1, h4, h7, k1, a6, sX, a7, na, ex, u7, v1, v2, wx_bd, wx_let, wx_st, wx_lit, wx_ga, wx_sa, pk_mul, nI_add, wx_le, wx_lt, wx_eq, wx_en, wx_ne', wx_nn, wx_ltn, wx_len, wx_nlt, wx_nle, wx_bz0, wx_bz1, if_pos, if_neg, wx_ite, Nat.reduceEqDiff, eq_self, if_true, if_false, not_true_eq_false, not_false_eq_true]
          · have z2 : wKd (TS (j + 2 + 1)) (TV (j + 2 + 1)) ≠ 2 := fun q => z ((wKd_n hv2).1 q)
            generalize wKd (TS (j + 2 + 1)) (TV (j + 2 + 1)) = K at *
            simp -implicitDefEqProofs (disch := omega) only [e_X6_readKinLine, e_X6_readKinLine__1, e_X6_readKinLine__2, e_X6_readKinLine__3, e_X6_readKinLine__4, e_X6_readKinLine__5, e_X6_readKinLine__6, e_X6_expectFirst, e_X6_expectFirst__1, e_X6_expectFirst__2, e_X6_expectFirst_25, e_X6_expectFirst_25__1, e_X6_readWig, e_X6_readWig__1, h4, h7, k1, a6, sX, a7, na, ex, u7, v1, wx_bd, wx_let, wx_st, wx_lit, wx_ga, wx_sa, pk_mul, nI_add, wx_le, wx_lt, wx_eq, wx_en, wx_ne', wx_nn, wx_ltn, wx_len, wx_nlt, wx_nle, wx_bz0, wx_bz1, if_pos, if_neg, wx_ite, Nat.reduceEqDiff, eq_self, if_true, if_false, not_true_eq_false, not_false_eq_true]
        have eM : f_X12_readKinLine 0 τ = f_X12_readKinLine_62 0 (nI a) τ2 := by
          by_cases z : TS (j + 2 + 1) = 3
          · have m2 := m2 (by omega)
            rw [z] at m1
            have z2 : TV (j + 2 + 1) ≠ a := fun q => cS ⟨z, q⟩
            have z3 : TV (j + 2 + 1) ≤ 9999 := by unfold wTv at hv2; omega
            simp -implicitDefEqProofs (disch := omega) only [e_X12_readKinLine, e_X12_readKinLine__1, e_X12_readKinLine__2, e_X12_readKinLine__3, e_X12_readKinLine__4, e_X12_readKinLine__5, t6, a8, na, y25, t1, m1, m2, wx_bd, wx_let, wx_st, wx_lit, wx_ga, wx_sa, pk_mul, nI_add, wx_le, wx_lt, wx_eq, wx_en, wx_ne', wx_nn, wx_ltn, wx_len, wx_nlt, wx_nle, wx_bz0, wx_bz1, if_pos, if_neg, wx_ite, Nat.reduceEqDiff, eq_self, if_true, if_false, not_true_eq_false, not_false_eq_true]
          · have ts : TS (j + 2 + 1) < 100 := by unfold wTv at hv2; omega
            simp -implicitDefEqProofs (disch := omega) only [e_X12_readKinLine, e_X12_readKinLine__1, e_X12_readKinLine__2, e_X12_readKinLine__3, e_X12_readKinLine__4, e_X12_readKinLine__5, t6, a8, na, y25, t1, m1, wx_bd, wx_let, wx_st, wx_lit, wx_ga, wx_sa, pk_mul, nI_add, wx_le, wx_lt, wx_eq, wx_en, wx_ne', wx_nn, wx_ltn, wx_len, wx_nlt, wx_nle, wx_bz0, wx_bz1, if_pos, if_neg, wx_ite, Nat.reduceEqDiff, eq_self, if_true, if_false, not_true_eq_false, not_false_eq_true]
        rw [eC, eM]
        rcases wl_nbr hO hI hc2 t2 (nI 0) (nI nw - nI 1) with ⟨τ3, b1, b2, b3, b4, b5, b6, b7, b8, b9⟩ | ⟨σ3, τ3, b1, b2, b3⟩
        · have blt := wx_upto (by omega) b5 (by omega)
          have nb := nm _ b3
          generalize hb : TV (j + 2 + 1) = b at *
          have hc3 := wTc_nx hc2 b2
          have fσ3 : wFx (pI n) σ (wg_u σ2 260 7 (nI (j + 2 + 1 + 1))) := wFx_u fσ2 rfl
          have s34 : (wg_u σ2 260 7 (nI (j + 2 + 1 + 1))) 274 4 = nI n := by rw [wx_un (by omega)]; exact s4
          generalize hU : wg_u σ2 260 7 (nI (j + 2 + 1 + 1)) = σ3 at *
          have h21 : ∀ w, τ3 21 (8 + w) = τ 21 (8 + w) := fun w => by rw [b9 21 _ (by omega), t3 21 _ (by omega), a12 21 _ (by omega)]
          obtain ⟨τ4, e1, e2, e3, e4, e5⟩ : ∃ τ4, (∀ b' s, f_X12_readMark 0 (nI 59) τ4 = some (b', s) → f_X12_readKinLine_62 0 (nI a) τ2 = some (b', s)) ∧ (∀ c i, ¬ (c = 21 ∧ i = 8 + a) → τ4 c i = τ3 c i) ∧ wFx qE τ3 τ4 ∧ (τ 21 (8 + a) = nI 0 → τ4 21 (8 + a) = nI (b + 1)) ∧ (τ 21 (8 + a) ≠ nI 0 → τ4 21 (8 + a) = τ 21 (8 + a)) := by
            by_cases z : τ3 21 (8 + a) = nI 0
            · refine ⟨wg_u τ3 21 (8 + a) (nI (b + 1)), fun b' s e => ?_, fun c i q => by rw [wx_ur, if_neg q], wFx_u (wFx_r _ _) (by simp [qE]), fun _ => by rw [wx_uk, pk_us], fun q => absurd ((h21 a).symm.trans z) q⟩
              simp -implicitDefEqProofs (disch := omega) only [e_X12_readKinLine_62, e_X12_readKinLine_62__1, e_X12_readKinLine_62__2, e_X12_readKinLine_62__3, e_X12_readKinLine_105, e_X12_readKinLine_105__1, t26, b7, nb, z, e, wx_bd, wx_let, wx_st, wx_lit, wx_ga, wx_sa, pk_mul, nI_add, wx_le, wx_lt, wx_eq, wx_en, wx_ne', wx_nn, wx_ltn, wx_len, wx_nlt, wx_nle, wx_bz0, wx_bz1, if_pos, if_neg, wx_ite, Nat.reduceEqDiff, eq_self, if_true, if_false, not_true_eq_false, not_false_eq_true]
            · refine ⟨τ3, fun b' s e => ?_, fun _ _ _ => rfl, wFx_r _ _, fun q => absurd ((h21 a).trans q) z, fun _ => h21 a⟩
              simp -implicitDefEqProofs (disch := omega) only [e_X12_readKinLine_62, e_X12_readKinLine_62__1, e_X12_readKinLine_62__2, e_X12_readKinLine_62__3, e_X12_readKinLine_105, e_X12_readKinLine_105__1, t26, b7, nb, z, e, wx_bd, wx_let, wx_st, wx_lit, wx_ga, wx_sa, pk_mul, nI_add, wx_le, wx_lt, wx_eq, wx_en, wx_ne', wx_nn, wx_ltn, wx_len, wx_nlt, wx_nle, wx_bz0, wx_bz1, if_pos, if_neg, wx_ite, Nat.reduceEqDiff, eq_self, if_true, if_false, not_true_eq_false, not_false_eq_true]
          have hm4 : RM (j + 2 + 1 + 1) τ4 := hI.2.1 _ τ3 _ b8 (fun c i q => e2 c i (by omega))
          have fτ4 : wFx qE τ τ4 := wFx_t fτ2 (wFx_t (wFx_19 q4 b9) e3)
          rcases wl_mk hO hI hc3 hm4 with ⟨τ5, z1, z2, z3, z4, z5⟩ | ⟨σ5, τ5, z1, z2, z3⟩
          · have s44 : (wg_u σ3 260 7 (nI (j + 2 + 1 + 1 + 1))) 274 4 = nI n := by rw [wx_un (by omega)]; exact s34
            have ad := wl_add hn s44 (nI 0) (nI 0) (nI a) (nI b)
            have fin : wFx (pI n) σ (wg_u (wg_u (wg_u (wg_u (wg_u (wg_u σ3 260 7 (nI (j + 2 + 1 + 1 + 1))) 275 n (nI 0)) 276 n (nI 0)) 277 n (nI a)) 278 n (nI b)) 274 4 (nI (n + 1))) := wFx_u (wFx_u (wFx_u (wFx_u (wFx_u (wFx_u fσ3 rfl) (by simp [pI, wU8])) (by simp [pI, wU8])) (by simp [pI, wU8])) (by simp [pI, wU8])) rfl
            refine Or.inl ⟨wg_u (wg_u (wg_u (wg_u (wg_u (wg_u σ3 260 7 (nI (j + 2 + 1 + 1 + 1))) 275 n (nI 0)) 276 n (nI 0)) 277 n (nI a)) 278 n (nI b)) 274 4 (nI (n + 1)), τ5, j + 2 + 1 + 1 + 1, ?_, e1 _ _ z2, ?_, z4, by omega, by simp -implicitDefEqProofs (disch := omega) only [wx_uk, wx_un, pk_us, pk_un], ?_, fin, wFx_t fτ4 (wFx_19 q4 z5)⟩
            · simp -implicitDefEqProofs (disch := omega) only [e_X6_readKinLine_73, e_X6_readKinLine_73__1, e_X6_readKinLine_73__2, e_X6_readKinLine_73__3, e_X6_readWig, e_X6_readWig__1, s2, b6, nb, hU, z1, ad, wx_bd, wx_let, wx_st, wx_lit, wx_ga, wx_sa, pk_mul, nI_add, wx_le, wx_lt, wx_eq, wx_en, wx_ne', wx_nn, wx_ltn, wx_len, wx_nlt, wx_nle, wx_bz0, wx_bz1, if_pos, if_neg, wx_ite, Nat.reduceEqDiff, eq_self, if_true, if_false, not_true_eq_false, not_false_eq_true]
            · exact wTc_fr z3 (fun c i q => by rw [wx_ur, if_neg (by omega), wx_ur, if_neg (by omega), wx_ur, if_neg (by omega), wx_ur, if_neg (by omega), wx_ur, if_neg (by omega)])
            · refine wKl_s (a := a) (b := b) (by omega) (by omega) hl (by simp -implicitDefEqProofs (disch := omega) only [wx_uk, wx_un, pk_us, pk_un]) (by simp -implicitDefEqProofs (disch := omega) only [wx_uk, wx_un, pk_us, pk_un]) (fun i hi => fin 277 i ?_) (fun i hi => fin 278 i ?_) (fun w hw8 hwa => ?_) (fun q => ?_) (fun q => ?_)
              · simp [pI, pS]; omega
              · simp [pI, pS]; omega
              · rw [z5 21 _ (by omega), e2 21 _ (by omega), h21 w]
              · rw [z5 21 _ (by omega)]; exact e4 q
              · rw [z5 21 _ (by omega)]; exact e5 q
          · refine Or.inr ⟨σ5, τ5, ?_, e1 _ _ z2, wE_t fσ3 fτ4 (wE_SE z3)⟩
            simp -implicitDefEqProofs (disch := omega) only [e_X6_readKinLine_73, e_X6_readKinLine_73__1, e_X6_readKinLine_73__2, e_X6_readKinLine_73__3, e_X6_readWig, e_X6_readWig__1, s2, b6, nb, hU, z1, wx_bd, wx_let, wx_st, wx_lit, wx_ga, wx_sa, pk_mul, nI_add, wx_le, wx_lt, wx_eq, wx_en, wx_ne', wx_nn, wx_ltn, wx_len, wx_nlt, wx_nle, wx_bz0, wx_bz1, if_pos, if_neg, wx_ite, Nat.reduceEqDiff, eq_self, if_true, if_false, not_true_eq_false, not_false_eq_true]
        · refine Or.inr ⟨σ3, τ3, ?_, ?_, wE_t fσ2 fτ2 (wE_SE b3)⟩
          · simp -implicitDefEqProofs (disch := omega) only [e_X6_readKinLine_73, e_X6_readKinLine_73__1, e_X6_readKinLine_73__2, e_X6_readKinLine_73__3, e_X6_readWig, e_X6_readWig__1, s2, b1, wx_bd, wx_let, wx_st, wx_lit, wx_ga, wx_sa, pk_mul, nI_add, wx_le, wx_lt, wx_eq, wx_en, wx_ne', wx_nn, wx_ltn, wx_len, wx_nlt, wx_nle, wx_bz0, wx_bz1, if_pos, if_neg, wx_ite, Nat.reduceEqDiff, eq_self, if_true, if_false, not_true_eq_false, not_false_eq_true]
          · simp -implicitDefEqProofs (disch := omega) only [e_X12_readKinLine_62, e_X12_readKinLine_62__1, e_X12_readKinLine_62__2, e_X12_readKinLine_62__3, t26, b2, wx_bd, wx_let, wx_st, wx_lit, wx_ga, wx_sa, pk_mul, nI_add, wx_le, wx_lt, wx_eq, wx_en, wx_ne', wx_nn, wx_ltn, wx_len, wx_nlt, wx_nle, wx_bz0, wx_bz1, if_pos, if_neg, wx_ite, Nat.reduceEqDiff, eq_self, if_true, if_false, not_true_eq_false, not_false_eq_true]
    · have ex := wl_exp0 hO a9 (show 281 < 300 by omega) (fun q => cO ((wKd_w hv1 (r := 25) (by omega)).1 q))
      have y25 := wl_wd0 (c := 25) hO j1M (by omega) r1 r2 cO
      have er := wl_errs (TF := TF) (j := j + 2) r3 (nI 1)
      refine Or.inr ⟨_, _, ?_, ?_, wE_t fσ1 fτ1 (wE_mk (wFx_r _ _) (wFx_r _ _) rfl rfl rfl rfl (nI 1) (nI (TF (j + 2))))⟩
      · simp -implicitDefEqProofs (disch := omega) only [e_X6_readKinLine, e_X6_readKinLine__1, e_X6_readKinLine__2, e_X6_readKinLine__3, e_X6_readKinLine__4, e_X6_readKinLine__5, e_X6_readKinLine__6, e_X6_expectFirst, e_X6_expectFirst__1, e_X6_expectFirst__2, e_X6_expectFirst_25, e_X6_expectFirst_25__1, e_X6_readWig, e_X6_readWig__1, h4, h7, k1, a6, sX, a7, na, ex, wx_bd, wx_let, wx_st, wx_lit, wx_ga, wx_sa, pk_mul, nI_add, wx_le, wx_lt, wx_eq, wx_en, wx_ne', wx_nn, wx_ltn, wx_len, wx_nlt, wx_nle, wx_bz0, wx_bz1, if_pos, if_neg, wx_ite, Nat.reduceEqDiff, eq_self, if_true, if_false, not_true_eq_false, not_false_eq_true]
      · simp -implicitDefEqProofs (disch := omega) only [e_X12_readKinLine, e_X12_readKinLine__1, e_X12_readKinLine__2, e_X12_readKinLine__3, e_X12_readKinLine__4, e_X12_readKinLine__5, t6, a8, na, y25, er, wx_bd, wx_let, wx_st, wx_lit, wx_ga, wx_sa, pk_mul, nI_add, wx_le, wx_lt, wx_eq, wx_en, wx_ne', wx_nn, wx_ltn, wx_len, wx_nlt, wx_nle, wx_bz0, wx_bz1, if_pos, if_neg, wx_ite, Nat.reduceEqDiff, eq_self, if_true, if_false, not_true_eq_false, not_false_eq_true]
  · exact absurd hin q
  · have a3 : f_X6_expect 260 (nI 276) σ = some (nI 1, wg_u σ 260 7 (nI (j + 1))) := a3
    refine Or.inr ⟨σ1, τ1, ?_, ?_, wE_SE a6⟩
    · simp -implicitDefEqProofs (disch := omega) only [e_X6_readKinLine, e_X6_readKinLine__1, e_X6_readKinLine__2, e_X6_readKinLine__3, e_X6_readKinLine__4, e_X6_readKinLine__5, e_X6_readKinLine__6, e_X6_expectFirst, e_X6_expectFirst__1, e_X6_expectFirst__2, e_X6_expectFirst_25, e_X6_expectFirst_25__1, e_X6_readWig, e_X6_readWig__1, h4, h7, k1, a3, sX, a4, wx_bd, wx_let, wx_st, wx_lit, wx_ga, wx_sa, pk_mul, nI_add, wx_le, wx_lt, wx_eq, wx_en, wx_ne', wx_nn, wx_ltn, wx_len, wx_nlt, wx_nle, wx_bz0, wx_bz1, if_pos, if_neg, wx_ite, Nat.reduceEqDiff, eq_self, if_true, if_false, not_true_eq_false, not_false_eq_true]
    · simp -implicitDefEqProofs (disch := omega) only [e_X12_readKinLine, e_X12_readKinLine__1, e_X12_readKinLine__2, e_X12_readKinLine__3, e_X12_readKinLine__4, e_X12_readKinLine__5, t6, a5, wx_bd, wx_let, wx_st, wx_lit, wx_ga, wx_sa, pk_mul, nI_add, wx_le, wx_lt, wx_eq, wx_en, wx_ne', wx_nn, wx_ltn, wx_len, wx_nlt, wx_nle, wx_bz0, wx_bz1, if_pos, if_neg, wx_ite, Nat.reduceEqDiff, eq_self, if_true, if_false, not_true_eq_false, not_false_eq_true]
end KN

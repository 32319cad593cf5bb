def wAc (c1 c2 : Nat → List (Nat × Int32)) : Nat → List (Nat × Int32)
  | 0 => []
  | l + 1 => (wAc c1 c2 l ++ c1 l) ++ c2 l
set_option maxHeartbeats 1000000 in
theorem wAc_cg {c1 c2 d1 d2 : Nat → List (Nat × Int32)} : ∀ k, (∀ l, l < k → c1 l = d1 l ∧ c2 l = d2 l) → wAc c1 c2 k = wAc d1 d2 k
  | 0, _ => rfl
  | k + 1, h => by
    show (wAc c1 c2 k ++ c1 k) ++ c2 k = (wAc d1 d2 k ++ d1 k) ++ d2 k
    rw [wAc_cg k (fun l hl => h l (by omega)), (h k (by omega)).1, (h k (by omega)).2]
def wLk (k : Nat) (σ τ : wg_M) : Prop := ∃ c1 c2 : Nat → List (Nat × Int32), wCc (wAc c1 c2 k) σ ∧ wCm (wAc c1 c2 k) τ ∧ wo_l (wAc c1 c2 k) ≤ 400 ∧ ∀ l, l < k → wLi l (wAc c1 c2 l) (c1 l) (c2 l) σ τ
section LW
variable {M : Nat} {TS TV TF : Nat → Nat} {RM : Nat → wg_M → Prop}
set_option maxHeartbeats 1000000 in
theorem wE_K {k : Nat} {σ τ σ' τ' : wg_M} (h : wE pC qC σ τ σ' τ') : wE (pK k) (qK k) σ τ σ' τ' := ⟨wFx_m (wU8_m pCK) h.1, wFx_m qCK h.2.1, h.2.2⟩
set_option maxHeartbeats 1000000 in
/-- one line -/
theorem wl_lineL (hO : wTo M TS TV) (hI : wTi M TS TV TF RM) {A : List (Nat × Int32)} {k j w : Nat} {σ τ : wg_M} (hk : k < 16) (hw : TS j = 2 ∧ TV j = w ∧ w < 3) (hc : wTc M TS TV TF j σ) (hm : RM j τ) (cc : wCc A σ) (cm : wCm A τ) (hb : wo_l A ≤ j) (l6 : σ 266 6 = nI k) (o0 : τ 0 30 = nI 0) : (∃ σ' τ' D1 D2 j', f_X6_readLawLine 260 σ = some (nI 1, σ') ∧ (∀ g, f_X12_readLaw_2 (g + 1) 0 (nI k) τ = f_X12_readLaw_2 g 0 (nI (k + 1)) τ') ∧ wTc M TS TV TF j' σ' ∧ RM j' τ' ∧ wCc ((A ++ D1) ++ D2) σ' ∧ wCm ((A ++ D1) ++ D2) τ' ∧ wo_l ((A ++ D1) ++ D2) ≤ j' ∧ j < j' ∧ σ' 266 6 = nI (k + 1) ∧ τ' 0 30 = nI 0 ∧ wLi k A D1 D2 σ' τ' ∧ wFx (pK k) σ σ' ∧ wFx (qK k) τ τ') ∨ (∃ σ' τ', f_X6_readLawLine 260 σ = some (nI 0, σ') ∧ (∀ g, f_X12_readLaw_2 (g + 1) 0 (nI k) τ = some (-nI 1, τ')) ∧ wE (pK k) (qK k) σ τ σ' τ') := by
  obtain ⟨hM, hM0, hv⟩ := id hO
  obtain ⟨hs, hvw, hw⟩ := hw
  obtain ⟨jM, h6, h7, hk'⟩ := id hc
  obtain ⟨k1, k2, k3⟩ := hk' j jM
  obtain ⟨r1, r2, r3⟩ := hI.1 j τ hm
  have r2 := r2 (by omega)
  rw [hs] at r1
  rw [hvw] at r2
  have jlt := wTo_lt hO jM (by omega)
  have kk : wKd (TS j) (TV j) = 266 + w := by
    rw [hs, hvw]
    show (if w < 7 then 266 + w else _) = _
    rw [if_pos (by omega)]
  rw [kk] at k1
  have hc1 := wTc_nx hc jlt
  have hmA : RM j (wg_u τ 12 (32 + k) (nI w)) := hI.2.1 j τ _ hm (fun a i q => by rw [wx_ur, if_neg (by omega)])
  obtain ⟨τ1, t1, t2, t3⟩ := hI.2.2 j _ jlt hmA
  have m29 : τ1 0 29 = nI (wo_l A) := by rw [t3 0 29 (by omega), wx_un (by omega)]; exact cm.1
  have hmB : RM (j + 1) (wg_u τ1 13 (32 + k) (nI (wo_l A))) := hI.2.1 (j + 1) τ1 _ t2 (fun a i q => by rw [wx_ur, if_neg (by omega)])
  have cmB : wCm A (wg_u τ1 13 (32 + k) (nI (wo_l A))) := wCm_fr (by simp -implicitDefEqProofs (disch := omega) only [wx_uk, wx_un, pk_us, pk_un]) (fun i => by simp -implicitDefEqProofs (disch := omega) only [wx_uk, wx_un, pk_us, pk_un]) (fun i => by simp -implicitDefEqProofs (disch := omega) only [wx_uk, wx_un, pk_us, pk_un]) (wCm_rd t3 (wCm_fr (by simp -implicitDefEqProofs (disch := omega) only [wx_uk, wx_un, pk_us, pk_un]) (fun i => by simp -implicitDefEqProofs (disch := omega) only [wx_uk, wx_un, pk_us, pk_un]) (fun i => by simp -implicitDefEqProofs (disch := omega) only [wx_uk, wx_un, pk_us, pk_un]) cm))
  have lw : f_X12_isLineWord 0 τ = some (nI 1, τ) := by
    simp -implicitDefEqProofs (disch := omega) only [e_X12_isLineWord, e_X12_isLineWord__1, e_X12_isIn, r1, r2, wx_bd, wx_let, wx_st, wx_lit, wx_ga, wx_sa, pk_mul, nI_add, wx_le, wx_lt, wx_eq, wx_en, wx_ne', wx_nn, wx_ltn, wx_len, wx_nlt, wx_nle, wx_bz0, wx_bz1, if_pos, if_neg, wx_ite, Nat.reduceEqDiff, eq_self, if_true, if_false, not_true_eq_false, not_false_eq_true]
  have fσ1 : wFx (pK k) σ (wg_u σ 260 7 (nI (j + 1))) := wFx_m pCK (wFx_m pSC (wFx_at σ _))
  have fτ1 : wFx (qK k) τ (wg_u τ1 13 (32 + k) (nI (wo_l A))) := wFx_u (wFx_t (wFx_u (wFx_r _ _) (by simp [qK])) (wFx_m qCK (wFx_m qOC (wFx_rdO t3)))) (by simp [qK])
  have la := wo_len A
  have n10 : ¬ nI 1 = nI 0 := by decide
  have n01 : ¬ nI 0 = -nI 1 := by decide
  rcases wl_sum hO hI hc1 hmB (wCc_at cc) cmB (by omega) with ⟨σ2, τ2, D1, j2, a1, a2, a3, a4, a5, a6, a7, a8, a9, a10⟩ | ⟨σ2, τ2, a1, a2, a3⟩
  · have j2M := a3.1
    have s62 := a5.1
    have m292 := a6.1
    have l62 : σ2 266 6 = nI k := by rw [a8 266 6 rfl, wx_un (by omega)]; exact l6
    have ll := wo_len (A ++ D1)
    have lb : wo_l (A ++ D1) ≤ j2 := by rw [wo_l_app]; omega
    generalize hσ3 : wg_u (wg_u σ2 269 k (nI (266 + w))) 270 k (nI (A ++ D1).length) = σ3 at *
    generalize hτ3 : wg_u τ2 14 (32 + k) (nI (wo_l (A ++ D1))) = τ3 at *
    have hc3 : wTc M TS TV TF j2 σ3 := by
      rw [← hσ3]
      exact wTc_fr a3 (fun a i q => by rw [wx_ur, if_neg (by omega), wx_ur, if_neg (by omega)])
    have hm3 : RM j2 τ3 := by
      rw [← hτ3]
      exact hI.2.1 j2 τ2 _ a4 (fun a i q => by rw [wx_ur, if_neg (by omega)])
    have cc3 : wCc (A ++ D1) σ3 := by
      rw [← hσ3]
      exact wCc_fr (by simp -implicitDefEqProofs (disch := omega) only [wx_uk, wx_un, pk_us, pk_un]) (fun i => by simp -implicitDefEqProofs (disch := omega) only [wx_uk, wx_un, pk_us, pk_un]) (fun i => by simp -implicitDefEqProofs (disch := omega) only [wx_uk, wx_un, pk_us, pk_un]) a5
    have cm3 : wCm (A ++ D1) τ3 := by
      rw [← hτ3]
      exact wCm_fr (by simp -implicitDefEqProofs (disch := omega) only [wx_uk, wx_un, pk_us, pk_un]) (fun i => by simp -implicitDefEqProofs (disch := omega) only [wx_uk, wx_un, pk_us, pk_un]) (fun i => by simp -implicitDefEqProofs (disch := omega) only [wx_uk, wx_un, pk_us, pk_un]) a6
    have fσ3 : wFx (pK k) σ σ3 := by
      rw [← hσ3]
      exact wFx_u (wFx_u (wFx_t fσ1 (wFx_m pCK (wFx_m pSC a8))) (by simp [pK])) (by simp [pK])
    have fτ3 : wFx (qK k) τ τ3 := by
      rw [← hτ3]
      exact wFx_u (wFx_t fτ1 (wFx_m qCK (wFx_m qSC a9))) (by simp [qK])
    have l63 : σ3 266 6 = nI k := by rw [← hσ3]; simp -implicitDefEqProofs (disch := omega) only [wx_uk, wx_un, pk_us, pk_un]; exact l62
    have s93 : σ3 269 k = nI (266 + w) := by rw [← hσ3]; simp -implicitDefEqProofs (disch := omega) only [wx_uk, wx_un, pk_us, pk_un]
    have s103 : σ3 270 k = nI (A ++ D1).length := by rw [← hσ3]; simp -implicitDefEqProofs (disch := omega) only [wx_uk, wx_un, pk_us, pk_un]
    have q12 : ∀ b, qS b (32 + k) = false → τ2 b (32 + k) = wg_u τ1 13 (32 + k) (nI (wo_l A)) b (32 + k) := fun b hq => a9 b (32 + k) hq
    have t123 : τ3 12 (32 + k) = nI w := by
      rw [← hτ3, wx_un (by omega), q12 12 (by simp [qS]), wx_un (by omega), t3 12 _ (by omega), wx_uk, pk_us]
    have t133 : τ3 13 (32 + k) = nI (wo_l A) := by
      rw [← hτ3, wx_un (by omega), q12 13 (by simp [qS]), wx_uk, pk_us]
    have t143 : τ3 14 (32 + k) = nI (wo_l (A ++ D1)) := by
      rw [← hτ3, wx_uk, pk_us]
    have o3 : τ3 0 30 = nI 0 := by
      rw [← hτ3, wx_un (by omega), a9 0 30 rfl, wx_un (by omega), t3 0 30 (by omega), wx_un (by omega)]; exact o0
    obtain ⟨-, u6, u7, uk⟩ := id hc3
    obtain ⟨l1, l2, l3⟩ := uk j2 j2M
    obtain ⟨m1, m2, m3⟩ := hI.1 j2 τ3 hm3
    have hvj := hv j2 j2M
    have kl := wKd_lt hvj
    have ty1 : wo_t D1 [] = some [false] := a10 [] (by decide)
    have eM : ∀ g, f_X12_readLaw_2 (g + 1) 0 (nI k) τ = wg_bd (f_X12_isWord 0 (nI 3) τ3) (fun v s => if v = nI 0 then f_X12_readLaw_92 (f_X12_readLaw_2 g) 0 (nI k) (nI (32 + k)) s else wg_bd (f_X12_reads 0 s) (fun _ s => wg_bd (f_X12_readAny 0 s) (fun v s => if v = -nI 1 then some (-nI 1, s) else f_X12_readLaw_92 (f_X12_readLaw_2 g) 0 (nI k) (nI (32 + k)) s))) := fun g => by
      simp -implicitDefEqProofs (disch := omega) only [e_X12_readLaw_2, e_X12_readLaw_2__1, e_X12_readLaw_2__2, e_X12_readLaw_2__3, e_X12_readLaw_2__4, e_X12_readLaw_2__5, e_X12_readLaw_2__6, e_X12_readLaw_2__7, e_X12_readLaw_2__8, e_X12_readLaw_2__9, e_X12_readLaw_2__10, e_X12_readLaw_2__11, e_X12_readLaw_2__12, lw, r2, t1, m29, a2, m292, hτ3, wx_bd, wx_let, wx_st, wx_lit, wx_ga, wx_sa, pk_mul, nI_add, wx_le, wx_lt, wx_eq, wx_en, wx_ne', wx_nn, wx_ltn, wx_len, wx_nlt, wx_nle, wx_bz0, wx_bz1, if_pos, if_neg, wx_ite, Nat.reduceEqDiff, eq_self, if_true, if_false, not_true_eq_false, not_false_eq_true]
      rfl
    have eC : f_X6_readLawLine 260 σ = wg_ga 401 (σ3 262) (σ3 260 7) (fun v => if v = nI 269 then wg_st σ3 260 7 (σ3 260 7 + nI 1) (fun s => wg_bd (f_X6_readCondition 260 s) (fun v s => if v = nI 0 then some (nI 0, s) else f_X6_readLawLine_136 260 (nI k) s)) else f_X6_readLawLine_136 260 (nI k) σ3) := by
      have e37 : f_X6_readLawLine 260 σ = f_X6_readLawLine_37 260 (nI (266 + w)) σ := by
        rcases (show w = 0 ∨ w = 1 ∨ w = 2 by omega) with rfl | rfl | rfl <;> simp -implicitDefEqProofs (disch := omega) only [e_X6_readLawLine, e_X6_readLawLine__1, e_X6_readLawLine__2, h7, k1, wx_bd, wx_let, wx_st, wx_lit, wx_ga, wx_sa, pk_mul, nI_add, wx_le, wx_lt, wx_eq, wx_en, wx_ne', wx_nn, wx_ltn, wx_len, wx_nlt, wx_nle, wx_bz0, wx_bz1, if_pos, if_neg, wx_ite, Nat.reduceEqDiff, eq_self, if_true, if_false, not_true_eq_false, not_false_eq_true]
      rw [e37]
      simp -implicitDefEqProofs (disch := omega) only [e_X6_readLawLine_37, e_X6_readLawLine_37__1, e_X6_readLawLine_37__2, e_X6_readLawLine_37__3, e_X6_readLawLine_37__4, e_X6_readLawLine_37__5, e_X6_readLawLine_37__6, e_X6_readLawLine_37__7, e_X6_readLawLine_37__8, e_X6_readLawLine_37__9, h7, l6, a1, s62, wx_uk, wx_un, pk_us, pk_un, hσ3, wx_bd, wx_let, wx_st, wx_lit, wx_ga, wx_sa, pk_mul, nI_add, wx_le, wx_lt, wx_eq, wx_en, wx_ne', wx_nn, wx_ltn, wx_len, wx_nlt, wx_nle, wx_bz0, wx_bz1, if_pos, if_neg, wx_ite, Nat.reduceEqDiff, eq_self, if_true, if_false, not_true_eq_false, not_false_eq_true]
      rfl
    by_cases cw : TS j2 = 2 ∧ TV j2 = 3
    · have j2lt := wTo_lt hO j2M (by omega)
      have l1 : σ3 262 j2 = nI 269 := by rw [l1, (wKd_w hvj (r := 3) (by omega)).2 cw]; rfl
      have y3 := wl_wd1 m1 m2 cw
      have hc4 := wTc_nx hc3 j2lt
      obtain ⟨τ4, p1, p2, p3⟩ := hI.2.2 j2 τ3 j2lt hm3
      generalize hσ5 : wg_u (wg_u (wg_u (wg_u σ3 260 7 (nI (j2 + 1))) 260 13 (nI 0)) 260 14 (nI 0)) 260 15 (nI 0) = σ5 at *
      generalize hτ5 : wg_u τ4 0 32 (nI 0) = τ5 at *
      have hc5 : wTc M TS TV TF (j2 + 1) σ5 := by
        rw [← hσ5]
        exact wTc_fr hc4 (fun a i q => by rw [wx_ur, if_neg (by omega), wx_ur, if_neg (by omega), wx_ur, if_neg (by omega)])
      have hm5 : RM (j2 + 1) τ5 := by
        rw [← hτ5]
        exact hI.2.1 (j2 + 1) τ4 _ p2 (fun a i q => by rw [wx_ur, if_neg (by omega)])
      have wc5 : wWc [] σ5 := by
        rw [← hσ5]
        exact ⟨by simp -implicitDefEqProofs (disch := omega) only [wx_uk, wx_un, pk_us, pk_un]; rfl, by simp -implicitDefEqProofs (disch := omega) only [wx_uk, wx_un, pk_us, pk_un]; rfl, by simp -implicitDefEqProofs (disch := omega) only [wx_uk, wx_un, pk_us, pk_un]; rfl, trivial⟩
      have wm5 : wWm [] τ5 := by
        rw [← hτ5]
        exact ⟨by simp -implicitDefEqProofs (disch := omega) only [wx_uk, wx_un, pk_us, pk_un]; rfl, by simp -implicitDefEqProofs (disch := omega) only [wx_uk, wx_un, pk_us, pk_un]; rw [p3 0 30 (by omega)]; exact o3, trivial⟩
      have cc5 : wCc ((A ++ D1) ++ []) σ5 := by
        rw [← hσ5, List.append_nil]
        exact wCc_at (wCc_at (wCc_at (wCc_at cc3)))
      have cm5 : wCm ((A ++ D1) ++ []) τ5 := by
        rw [← hτ5, List.append_nil]
        exact wCm_fr (by simp -implicitDefEqProofs (disch := omega) only [wx_uk, wx_un, pk_us, pk_un]) (fun i => by simp -implicitDefEqProofs (disch := omega) only [wx_uk, wx_un, pk_us, pk_un]) (fun i => by simp -implicitDefEqProofs (disch := omega) only [wx_uk, wx_un, pk_us, pk_un]) (wCm_rd p3 cm3)
      have fσ5 : wFx pC σ3 σ5 := by
        rw [← hσ5]
        exact wFx_u (wFx_u (wFx_u (wFx_u (wFx_r _ _) rfl) rfl) rfl) rfl
      have fτ5 : wFx qC τ3 τ5 := by
        rw [← hτ5]
        exact wFx_u (wFx_m qOC (wFx_rdO p3)) rfl
      have rC : f_X6_readCondition 260 (wg_u σ3 260 7 (nI (j2 + 1))) = f_X6_readCondition_15 wg_N 260 σ5 := by
        rw [← hσ5]
        simp -implicitDefEqProofs (disch := omega) only [e_X6_readCondition, e_X6_readCondition__1, e_X6_readCondition__2, e_X6_readCondition__3, wx_bd, wx_let, wx_st, wx_lit, wx_ga, wx_sa, pk_mul, nI_add, wx_le, wx_lt, wx_eq, wx_en, wx_ne', wx_nn, wx_ltn, wx_len, wx_nlt, wx_nle, wx_bz0, wx_bz1, if_pos, if_neg, wx_ite, Nat.reduceEqDiff, eq_self, if_true, if_false, not_true_eq_false, not_false_eq_true]
      have rA : f_X12_readAny 0 τ4 = f_X12_readAny_9 wg_N 0 (nI (wbr [])) (nI 1) τ5 := by
        rw [← hτ5]
        simp -implicitDefEqProofs (disch := omega) only [e_X12_readAny, e_X12_readAny__1, wx_bd, wx_let, wx_st, wx_lit, wx_ga, wx_sa, pk_mul, nI_add, wx_le, wx_lt, wx_eq, wx_en, wx_ne', wx_nn, wx_ltn, wx_len, wx_nlt, wx_nle, wx_bz0, wx_bz1, if_pos, if_neg, wx_ite, Nat.reduceEqDiff, eq_self, if_true, if_false, not_true_eq_false, not_false_eq_true]
        rfl
      have eC2 : f_X6_readLawLine 260 σ = wg_bd (f_X6_readCondition_15 wg_N 260 σ5) (fun v s => if v = nI 0 then some (nI 0, s) else f_X6_readLawLine_136 260 (nI k) s) := by
        rw [eC, ← rC]
        simp -implicitDefEqProofs (disch := omega) only [u7, l1, wx_bd, wx_let, wx_st, wx_lit, wx_ga, wx_sa, pk_mul, nI_add, wx_le, wx_lt, wx_eq, wx_en, wx_ne', wx_nn, wx_ltn, wx_len, wx_nlt, wx_nle, wx_bz0, wx_bz1, if_pos, if_neg, wx_ite, Nat.reduceEqDiff, eq_self, if_true, if_false, not_true_eq_false, not_false_eq_true]
      have eM2 : ∀ g, f_X12_readLaw_2 (g + 1) 0 (nI k) τ = wg_bd (f_X12_readAny_9 wg_N 0 (nI (wbr [])) (nI 1) τ5) (fun v s => if v = -nI 1 then some (-nI 1, s) else f_X12_readLaw_92 (f_X12_readLaw_2 g) 0 (nI k) (nI (32 + k)) s) := fun g => by
        rw [eM g, ← rA, y3, wx_bd]
        simp -implicitDefEqProofs (disch := omega) only [p1, wx_bd, wx_let, wx_st, wx_lit, wx_ga, wx_sa, pk_mul, nI_add, wx_le, wx_lt, wx_eq, wx_en, wx_ne', wx_nn, wx_ltn, wx_len, wx_nlt, wx_nle, wx_bz0, wx_bz1, if_pos, if_neg, wx_ite, Nat.reduceEqDiff, eq_self, if_true, if_false, not_true_eq_false, not_false_eq_true]
      rcases wl_cond hO hI (C0 := A ++ D1) M (j2 + 1) [] [] σ5 τ5 wg_N wg_N (by omega) (by rw [wx_N]; omega) (by rw [wx_N]; omega) hc5 hm5 wc5 wm5 cc5 cm5 trivial (by decide) (by rw [List.append_nil]; show wo_l (A ++ D1) + 0 ≤ j2 + 1; omega) rfl with ⟨σ6, τ6, D2, j6, b1, b2, b3, b4, b5, b6, b7, b8, b9, b10, b11, b12⟩ | ⟨σ6, τ6, b1, b2, b3⟩
      · have fa : wFx pC σ3 σ6 := wFx_t fσ5 b11
        have fb : wFx qC τ3 τ6 := wFx_t fτ5 b12
        rcases wl_fin hO hI hk hw b3 b4 b5 b6 b7 (by rw [fa 266 6 rfl]; exact l63) (by rw [fa 269 k (by simp [pC, pS])]; exact s93) (by rw [fa 270 k (by simp [pC, pS])]; exact s103) (by rw [fb 12 _ (by simp [qC, qS])]; exact t123) (by rw [fb 13 _ (by simp [qC, qS])]; exact t133) (by rw [fb 14 _ (by simp [qC, qS])]; exact t143) ty1 (Or.inr b9) with ⟨σ7, τ7, e1, e2, e3, e4, e5, e6, e7, e8, e9, e10, e11⟩ | ⟨σ7, τ7, e1, e2, e3⟩
        · refine Or.inl ⟨σ7, τ7, D1, D2, j6 + 1, ?_, fun g => ?_, e3, e4, e5, e6, by omega, by omega, e7, by rw [e8]; exact b10, e9, wFx_t fσ3 (wFx_t (wFx_m pCK fa) e10), wFx_t fτ3 (wFx_t (wFx_m qCK fb) e11)⟩
          · rw [eC2, b1, wx_bd]
            simp only [n10, if_false]
            exact e1
          · rw [eM2 g, b2, wx_bd]
            simp only [n01, if_false]
            exact e2 g
        · refine Or.inr ⟨σ7, τ7, ?_, fun g => ?_, wE_t (wFx_t fσ3 (wFx_m pCK fa)) (wFx_t fτ3 (wFx_m qCK fb)) e3⟩
          · rw [eC2, b1, wx_bd]
            simp only [n10, if_false]
            exact e1
          · rw [eM2 g, b2, wx_bd]
            simp only [n01, if_false]
            exact e2 g
      · refine Or.inr ⟨σ6, τ6, ?_, fun g => ?_, wE_t (wFx_t fσ3 (wFx_m pCK fσ5)) (wFx_t fτ3 (wFx_m qCK fτ5)) (wE_K b3)⟩
        · rw [eC2, b1, wx_bd]; rfl
        · rw [eM2 g, b2, wx_bd]; rfl
    · have kn : wKd (TS j2) (TV j2) ≠ 269 := fun q => cw ((wKd_w hvj (r := 3) (by omega)).1 q)
      have y3 := wl_wd0 (c := 3) hO j2M (by omega) m1 m2 cw
      have eC2 : f_X6_readLawLine 260 σ = f_X6_readLawLine_136 260 (nI k) σ3 := by
        rw [eC]
        generalize wKd (TS j2) (TV j2) = K at *
        simp -implicitDefEqProofs (disch := omega) only [u7, l1, wx_bd, wx_let, wx_st, wx_lit, wx_ga, wx_sa, pk_mul, nI_add, wx_le, wx_lt, wx_eq, wx_en, wx_ne', wx_nn, wx_ltn, wx_len, wx_nlt, wx_nle, wx_bz0, wx_bz1, if_pos, if_neg, wx_ite, Nat.reduceEqDiff, eq_self, if_true, if_false, not_true_eq_false, not_false_eq_true]
      have eM2 : ∀ g, f_X12_readLaw_2 (g + 1) 0 (nI k) τ = f_X12_readLaw_92 (f_X12_readLaw_2 g) 0 (nI k) (nI (32 + k)) τ3 := fun g => by
        rw [eM g, y3, wx_bd]
        rfl
      rcases wl_fin (D2 := []) hO hI hk hw hc3 hm3 (by rw [List.append_nil]; exact cc3) (by rw [List.append_nil]; exact cm3) (by rw [List.append_nil]; exact lb) l63 s93 s103 t123 t133 t143 ty1 (Or.inl rfl) with ⟨σ7, τ7, e1, e2, e3, e4, e5, e6, e7, e8, e9, e10, e11⟩ | ⟨σ7, τ7, e1, e2, e3⟩
      · exact Or.inl ⟨σ7, τ7, D1, [], j2 + 1, by rw [eC2]; exact e1, fun g => by rw [eM2 g]; exact e2 g, e3, e4, e5, e6, by rw [List.append_nil]; omega, by omega, e7, by rw [e8]; exact o3, e9, wFx_t fσ3 e10, wFx_t fτ3 e11⟩
      · exact Or.inr ⟨σ7, τ7, by rw [eC2]; exact e1, fun g => by rw [eM2 g]; exact e2 g, wE_t fσ3 fτ3 e3⟩
  · refine Or.inr ⟨σ2, τ2, ?_, fun g => ?_, wE_t fσ1 fτ1 (wE_K (wE_SC a3))⟩
    · have e37 : f_X6_readLawLine 260 σ = f_X6_readLawLine_37 260 (nI (266 + w)) σ := by
        rcases (show w = 0 ∨ w = 1 ∨ w = 2 by omega) with rfl | rfl | rfl <;> simp -implicitDefEqProofs (disch := omega) only [e_X6_readLawLine, e_X6_readLawLine__1, e_X6_readLawLine__2, h7, k1, wx_bd, wx_let, wx_st, wx_lit, wx_ga, wx_sa, pk_mul, nI_add, wx_le, wx_lt, wx_eq, wx_en, wx_ne', wx_nn, wx_ltn, wx_len, wx_nlt, wx_nle, wx_bz0, wx_bz1, if_pos, if_neg, wx_ite, Nat.reduceEqDiff, eq_self, if_true, if_false, not_true_eq_false, not_false_eq_true]
      rw [e37]
      simp -implicitDefEqProofs (disch := omega) only [e_X6_readLawLine_37, e_X6_readLawLine_37__1, e_X6_readLawLine_37__2, e_X6_readLawLine_37__3, e_X6_readLawLine_37__4, e_X6_readLawLine_37__5, e_X6_readLawLine_37__6, e_X6_readLawLine_37__7, e_X6_readLawLine_37__8, e_X6_readLawLine_37__9, h7, l6, a1, wx_bd, wx_let, wx_st, wx_lit, wx_ga, wx_sa, pk_mul, nI_add, wx_le, wx_lt, wx_eq, wx_en, wx_ne', wx_nn, wx_ltn, wx_len, wx_nlt, wx_nle, wx_bz0, wx_bz1, if_pos, if_neg, wx_ite, Nat.reduceEqDiff, eq_self, if_true, if_false, not_true_eq_false, not_false_eq_true]
    · simp -implicitDefEqProofs (disch := omega) only [e_X12_readLaw_2, e_X12_readLaw_2__1, e_X12_readLaw_2__2, e_X12_readLaw_2__3, e_X12_readLaw_2__4, e_X12_readLaw_2__5, e_X12_readLaw_2__6, e_X12_readLaw_2__7, e_X12_readLaw_2__8, e_X12_readLaw_2__9, e_X12_readLaw_2__10, e_X12_readLaw_2__11, e_X12_readLaw_2__12, lw, r2, t1, m29, a2, wx_bd, wx_let, wx_st, wx_lit, wx_ga, wx_sa, pk_mul, nI_add, wx_le, wx_lt, wx_eq, wx_en, wx_ne', wx_nn, wx_ltn, wx_len, wx_nlt, wx_nle, wx_bz0, wx_bz1, if_pos, if_neg, wx_ite, Nat.reduceEqDiff, eq_self, if_true, if_false, not_true_eq_false, not_false_eq_true]
end LW

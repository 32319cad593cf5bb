set_option maxHeartbeats 1000000 in
theorem wWf_100 : ∀ W, wWf W → ∀ x, x ∈ W → x < 100
  | [], _, x, h => by cases h
  | y :: R, ⟨a, b⟩, x, h => by
    rcases List.mem_cons.1 h with rfl | h
    · omega
    · exact wWf_100 R b x h
set_option maxHeartbeats 1000000 in
theorem wFx_stC {σ σ' : wg_M} (h : ∀ a i, ¬ (a = 260 ∧ i = 13) → ¬ (a = 266 ∧ i = 2) → a ≠ 267 → a ≠ 268 → σ' a i = σ a i) : wFx pC σ σ' := fun a i q => by
  simp only [pC, pS, Bool.or_eq_false_iff, Bool.and_eq_false_iff, beq_eq_false_iff_ne] at q
  exact h a i (by omega) (by omega) (by omega) (by omega)
set_option maxHeartbeats 1000000 in
theorem wFx_ntC {σ σ' : wg_M} (h : ∀ a i, ¬ (a = 260 ∧ (i = 13 ∨ i = 14)) → ¬ (a = 266 ∧ i = 2) → a ≠ 267 → a ≠ 268 → σ' a i = σ a i) : wFx pC σ σ' := fun a i q => by
  simp only [pC, pS, Bool.or_eq_false_iff, Bool.and_eq_false_iff, beq_eq_false_iff_ne] at q
  exact h a i (by omega) (by omega) (by omega) (by omega)
set_option maxHeartbeats 1000000 in
theorem wFx_ntM {τ τ' : wg_M} (h : ∀ a i, ¬ (a = 0 ∧ (i = 29 ∨ i = 30 ∨ i = 32)) → ¬ ((a = 16 ∨ a = 17) ∧ 800 ≤ i) → τ' a i = τ a i) : wFx qC τ τ' := fun a i q => by
  simp only [qC, qS, Bool.or_eq_false_iff, Bool.and_eq_false_iff, beq_eq_false_iff_ne, decide_eq_false_iff_not] at q
  exact h a i (by omega) (by omega)
set_option maxHeartbeats 1000000 in
theorem wFx_stM {τ τ' : wg_M} (h : ∀ a i, ¬ (a = 0 ∧ (i = 29 ∨ i = 32)) → ¬ ((a = 16 ∨ a = 17) ∧ 800 ≤ i) → τ' a i = τ a i) : wFx qC τ τ' := wFx_ntM (fun a i q1 q2 => h a i (by omega) q2)
section CL
variable {M : Nat} {TS TV TF : Nat → Nat} {RM : Nat → wg_M → Prop}
set_option maxHeartbeats 1000000 in
theorem wl_close (hO : wTo M TS TV) (hI : wTi M TS TV TF RM) : ∀ d j W C σ τ f g, M ≤ j + d → d < f → M + 2 ≤ g + j → wTc M TS TV TF j σ → RM j τ → wWc W σ → wWm W τ → wCc C σ → wCm C τ → wWf W → whd W ≠ 9 → wop W ≤ 8 → wo_l C + W.length ≤ j → ∃ j' W' D σ' τ' g', wg_bd (f_X6_settle_58 260 σ) (fun _ s => f_X6_readClosing_4 f 260 s) = some (nI 0, σ') ∧ f_X12_readAny_9 g 0 (nI (wbr W)) (nI 0) τ = f_X12_readAny_9 g' 0 (nI (wbr W')) (nI 0) τ' ∧ M + 2 ≤ g' + j' ∧ j ≤ j' ∧ wTc M TS TV TF j' σ' ∧ RM j' τ' ∧ ((TS j' = 2 ∧ TV j' = 5 ∧ wWc (wpW 10 W') σ' ∧ wCc ((C ++ D) ++ wpD 10 W') σ') ∨ (¬ (TS j' = 2 ∧ TV j' = 5) ∧ wWc (wpW 11 (wpW 10 W')) σ' ∧ wCc (((C ++ D) ++ wpD 10 W') ++ wpD 11 (wpW 10 W')) σ')) ∧ wWm W' τ' ∧ wCm (C ++ D) τ' ∧ wWf W' ∧ whd W' ≠ 9 ∧ wop W' ≤ 8 ∧ wo_l (C ++ D) + W'.length ≤ j' ∧ ¬ (TS j' = 4 ∧ TV j' = 41 ∧ 0 < wbr W') ∧ wo_t D (true :: List.replicate (wto W) true) = some (true :: List.replicate (wto W') true) ∧ wFx pC σ σ' ∧ wFx qC τ τ' := by
  obtain ⟨hM, hM0, hv⟩ := id hO
  intro d
  induction d with
  | zero =>
    intro j W C σ τ f g hd hf hg hc hm wc wm cc cm wf h9 w8 hb
    obtain ⟨f, rfl⟩ : ∃ k, f = k + 1 := ⟨f - 1, by omega⟩
    have w26 := wWf_26 wf w8
    have jM := hc.1
    obtain ⟨σ1, s1, s2, s3, s4⟩ := wl_s58 hO hc wc cc wf (by omega) h9 (by omega)
    obtain ⟨-, h6, h7, hk⟩ := id s2
    obtain ⟨k1, k2, k3⟩ := hk j jM
    obtain rfl : j = M := by omega
    rw [hM0] at k1
    have k1 : σ1 262 j = nI 1 := k1
    have e : f_X6_readClosing_4 (f + 1) 260 σ1 = some (nI 0, σ1) := by simp -implicitDefEqProofs (disch := omega) only [e_X6_readClosing_4, e_X6_readClosing_4__1, e_X6_readClosing_4__2, e_X6_readClosing_4__3, e_X6_readClosing_4__4, e_X6_readClosing_4__5, e_X6_readClosing_4__6, h6, h7, k1, wx_bd, wx_let, wx_st, wx_lit, wx_ga, wx_sa, pk_mul, nI_add, wx_le, wx_lt, wx_eq, wx_en, wx_ne', wx_nn, wx_ltn, wx_len, wx_nlt, wx_nle, wx_bz0, wx_bz1, if_pos, if_neg, wx_ite, Nat.reduceEqDiff, eq_self, if_true, if_false, not_true_eq_false, not_false_eq_true]
    exact ⟨j, W, [], σ1, τ, g, by rw [s1, wx_bd]; exact e, rfl, hg, Nat.le_refl _, s2, hm, by simpa using s3, wm, by simpa using cm, wf, h9, w8, by simpa using hb, by omega, rfl, wFx_stC s4, wFx_r _ _⟩
  | succ d ih =>
    intro j W C σ τ f g hd hf hg hc hm wc wm cc cm wf h9 w8 hb
    obtain ⟨f, rfl⟩ : ∃ k, f = k + 1 := ⟨f - 1, by omega⟩
    have w26 := wWf_26 wf w8
    have jM := hc.1
    obtain ⟨σ1, s1, s2, s3, s4⟩ := wl_s58 hO hc wc cc wf (by omega) h9 (by omega)
    obtain ⟨-, h6, h7, hk⟩ := id s2
    obtain ⟨k1, k2, k3⟩ := hk j jM
    have hvj := hv j jM
    have kl := wKd_lt hvj
    obtain ⟨r1, r2, r3⟩ := hI.1 j τ hm
    obtain ⟨x1, x2, x3, x4, x5⟩ := wpW_f (k := 10) (Or.inl rfl) W wf
    obtain ⟨y1, y2, y3, y4, y5⟩ := wpW_f (k := 11) (Or.inr rfl) (wpW 10 W) x1
    have hh := wp10_h wf h9
    have hh2 := wp11_h x1 hh
    have bo := wbr_le W
    have b15 : σ1 260 15 = nI (wbr W) := by rw [s4 260 15 (by omega) (by omega) (by omega) (by omega)]; exact wc.2.2.1
    by_cases cc1 : TS j = 4 ∧ TV j = 41
    · have k1 : σ1 262 j = nI 41 := by rw [k1, (wKd_s hvj (c := 41) (by omega) (by omega)).2 cc1]
      by_cases cb : wbr W = 0
      · rw [cb] at b15
        have e : f_X6_readClosing_4 (f + 1) 260 σ1 = some (nI 0, σ1) := by simp -implicitDefEqProofs (disch := omega) only [e_X6_readClosing_4, e_X6_readClosing_4__1, e_X6_readClosing_4__2, e_X6_readClosing_4__3, e_X6_readClosing_4__4, e_X6_readClosing_4__5, e_X6_readClosing_4__6, h6, h7, k1, b15, wx_bd, wx_let, wx_st, wx_lit, wx_ga, wx_sa, pk_mul, nI_add, wx_le, wx_lt, wx_eq, wx_en, wx_ne', wx_nn, wx_ltn, wx_len, wx_nlt, wx_nle, wx_bz0, wx_bz1, if_pos, if_neg, wx_ite, Nat.reduceEqDiff, eq_self, if_true, if_false, not_true_eq_false, not_false_eq_true]
        exact ⟨j, W, [], σ1, τ, g, by rw [s1, wx_bd]; exact e, rfl, hg, Nat.le_refl _, s2, hm, by simpa using s3, wm, by simpa using cm, wf, h9, w8, by simpa using hb, by omega, rfl, wFx_stC s4, wFx_r _ _⟩
      · rcases s3 with ⟨q, -⟩ | ⟨-, g1, g2⟩
        · omega
        have h12 : whd (wpW 11 (wpW 10 W)) = 12 := by
          rcases hh2 with q | q
          · have := whd_0 y1 q
            rw [this] at y2
            have y2 : 0 = wbr (wpW 10 W) := y2
            omega
          · exact q
        obtain ⟨R, hR⟩ := whd_12 h12
        rw [hR] at g1 y1 y2 y3 y4 y5
        have wR := y1.2
        have eb : wbr (12 :: R) = wbr R + 1 := rfl
        have eo : wop (12 :: R) = wop R + 1 := rfl
        have et : wto (12 :: R) = wto R := rfl
        rw [eb] at y2
        rw [eo] at y3
        rw [et] at y5
        simp only [List.length_cons] at y4
        have jlt := wTo_lt hO jM (by omega)
        obtain ⟨g, rfl⟩ : ∃ k, g = k + 1 := ⟨g - 1, by omega⟩
        obtain ⟨a13, a14, a15, aS⟩ := id g1
        have a13 : σ1 260 13 = nI (R.length + 1) := a13
        have a14 : σ1 260 14 = nI (wop R + 1) := a14
        have a15 : σ1 260 15 = nI (wbr R + 1) := a15
        have sb1 : nI (R.length + 1) - nI 1 = nI R.length := wx_sub1 _
        have sb2 : nI (wop R + 1) - nI 1 = nI (wop R) := wx_sub1 _
        have sb3 : nI (wbr R + 1) - nI 1 = nI (wbr R) := wx_sub1 _
        obtain ⟨v1, v2, v3, v4, v5, v6⟩ := wnW_f R wR
        -- the class
        have hcA : wTc M TS TV TF j (wg_u (wg_u (wg_u σ1 260 13 (nI R.length)) 260 15 (nI (wbr R))) 260 14 (nI (wop R))) := wTc_fr s2 (fun a i q => by rw [wx_ur, if_neg (by omega), wx_ur, if_neg (by omega), wx_ur, if_neg (by omega)])
        have hcB := wTc_nx hcA jlt
        generalize hs5 : wg_u (wg_u (wg_u (wg_u σ1 260 13 (nI R.length)) 260 15 (nI (wbr R))) 260 14 (nI (wop R))) 260 7 (nI (j + 1)) = s5 at *
        have wc5 : wWc R s5 := by
          rw [← hs5]
          exact ⟨by simp -implicitDefEqProofs (disch := omega) only [wx_uk, wx_un, pk_us, pk_un], by simp -implicitDefEqProofs (disch := omega) only [wx_uk, wx_un, pk_us, pk_un], by simp -implicitDefEqProofs (disch := omega) only [wx_uk, wx_un, pk_us, pk_un], wStk_fr (fun i hi => by simp -implicitDefEqProofs (disch := omega) only [wx_uk, wx_un, pk_us, pk_un]) aS.2⟩
        have cc5 : wCc ((C ++ wpD 10 W) ++ wpD 11 (wpW 10 W)) s5 := by
          rw [← hs5]
          exact wCc_at (wCc_at (wCc_at (wCc_at g2)))
        have fr5 : wFx pC σ1 s5 := by
          rw [← hs5]
          exact wFx_u (wFx_u (wFx_u (wFx_u (wFx_r _ _) rfl) rfl) rfl) rfl
        have hl2 : wo_l ((C ++ wpD 10 W) ++ wpD 11 (wpW 10 W)) + R.length ≤ 400 := by rw [wo_l_app, wo_l_app]; omega
        obtain ⟨s6, n1, n2, n3, n4⟩ := wl_nC R _ s5 wg_N (by rw [wx_N]; omega) (by omega) wc5 cc5 hl2
        have es : f_X6_settle 260 s5 = f_X6_settle_58 260 s6 := by rw [e_X6_settle]; exact n1
        have hc6 : wTc M TS TV TF (j + 1) s6 := wTc_fr hcB (fun a i q => n4 a i (by omega) (by omega) (by omega) (by omega))
        have eC : wg_bd (f_X6_settle_58 260 σ) (fun _ s => f_X6_readClosing_4 (f + 1) 260 s) = wg_bd (f_X6_settle_58 260 s6) (fun _ s => f_X6_readClosing_4 f 260 s) := by
          rw [s1, wx_bd]
          simp -implicitDefEqProofs (disch := omega) only [e_X6_readClosing_4, e_X6_readClosing_4__1, e_X6_readClosing_4__2, e_X6_readClosing_4__3, e_X6_readClosing_4__4, e_X6_readClosing_4__5, e_X6_readClosing_4__6, h6, h7, k1, a13, a14, a15, sb1, sb2, sb3, wx_uk, wx_un, pk_us, pk_un, wx_bd, wx_let, wx_st, wx_lit, wx_ga, wx_sa, pk_mul, nI_add, wx_le, wx_lt, wx_eq, wx_en, wx_ne', wx_nn, wx_ltn, wx_len, wx_nlt, wx_nle, wx_bz0, wx_bz1, if_pos, if_neg, wx_ite, Nat.reduceEqDiff, eq_self, if_true, if_false, not_true_eq_false, not_false_eq_true]
          rw [hs5, es]
          rfl
        -- the reference
        have m5 := wl_wd0 (c := 5) hO jM (by omega) r1 r2 (by omega)
        have m4 := wl_wd0 (c := 4) hO jM (by omega) r1 r2 (by omega)
        obtain ⟨τ1, t1, t2, t3, t4⟩ := wl_pM (k := 10) (Or.inl rfl) wf (by omega) wm cm (by omega) (by omega) h9
        obtain ⟨τ2, u1, u2, u3, u4⟩ := wl_pM (k := 11) (Or.inr rfl) x1 (by omega) t2 t3 (by rw [wo_l_app]; omega) (fun _ => hh) (by omega)
        rw [hR] at u2
        obtain ⟨b32, b30, bS⟩ := id u2
        have b32 : τ2 0 32 = nI (R.length + 1) := b32
        have b30 : τ2 0 30 = nI (wop R + 1) := b30
        have hm2 : RM j τ2 := hI.2.1 j τ τ2 hm (fun a i q => by rw [u4 a i (by omega) (by omega), t4 a i (by omega) (by omega)])
        obtain ⟨e1, e2, e3⟩ := hI.1 j τ2 hm2
        have sg := wl_sg1 e1 e2 cc1
        generalize ht3 : wg_u (wg_u τ2 0 32 (nI R.length)) 0 30 (nI (wop R)) = τ3 at *
        have wm3 : wWm R τ3 := by
          rw [← ht3]
          exact ⟨by simp -implicitDefEqProofs (disch := omega) only [wx_uk, wx_un, pk_us, pk_un], by simp -implicitDefEqProofs (disch := omega) only [wx_uk, wx_un, pk_us, pk_un], wStk_fr (fun i hi => by simp -implicitDefEqProofs (disch := omega) only [wx_uk, wx_un, pk_us, pk_un]) bS.2⟩
        have cm3 : wCm ((C ++ wpD 10 W) ++ wpD 11 (wpW 10 W)) τ3 := by
          rw [← ht3]
          exact wCm_fr (by simp -implicitDefEqProofs (disch := omega) only [wx_uk, wx_un, pk_us, pk_un]) (fun i => by simp -implicitDefEqProofs (disch := omega) only [wx_uk, wx_un, pk_us, pk_un]) (fun i => by simp -implicitDefEqProofs (disch := omega) only [wx_uk, wx_un, pk_us, pk_un]) u3
        obtain ⟨τ4, w1, w2, w3, w4⟩ := wl_nM R _ τ3 wg_N (by rw [wx_N]; omega) (by omega) (wWf_100 R wR) wm3 cm3 hl2
        have es9 : f_X12_settles 0 (nI 9) τ3 = some (nI 0, τ4) := by rw [e_X12_settles]; exact w1
        have hm4 : RM j τ4 := hI.2.1 j τ2 τ4 hm2 (fun a i q => by rw [w4 a i (by omega) (by omega), ← ht3, wx_ur, if_neg (by omega), wx_ur, if_neg (by omega)])
        obtain ⟨τ5, z1, z2, z3⟩ := hI.2.2 j τ4 jlt hm4
        have eM : f_X12_readAny_9 (g + 1) 0 (nI (wbr W)) (nI 0) τ = f_X12_readAny_9 g 0 (nI (wbr (wnW R))) (nI 0) τ5 := by
          have ebw : wbr W = wbr R + 1 := by omega
          rw [v4, ebw]
          simp -implicitDefEqProofs (disch := omega) only [e_X12_readAny_9, e_X12_readAny_9__1, e_X12_readAny_9__2, e_X12_readAny_9__3, e_X12_readAny_9__4, e_X12_readAny_9__5, e_X12_readAny_9__6, e_X12_readAny_9__7, e_X12_readAny_9__8, e_X12_readAny_9__9, e_X12_readAny_9__10, e_X12_readAny_9__11, e_X12_readAny_9__12, e_X12_readAny_9__13, e_X12_readAny_9__14, e_X12_readAny_9__15, e_X12_readAny_9__16, e_X12_readAny_9__17, e_X12_readAny_9__18, e_X12_readAny_9__19, e_X12_readAny_9__20, e_X12_readAny_9__21, e_X12_readAny_9__22, m5, m4, t1, u1, sg, b32, b30, sb1, sb2, sb3, ht3, es9, z1, wx_uk, wx_un, pk_us, pk_un, wx_bd, wx_let, wx_st, wx_lit, wx_ga, wx_sa, pk_mul, nI_add, wx_le, wx_lt, wx_eq, wx_en, wx_ne', wx_nn, wx_ltn, wx_len, wx_nlt, wx_nle, wx_bz0, wx_bz1, if_pos, if_neg, wx_ite, Nat.reduceEqDiff, eq_self, if_true, if_false, not_true_eq_false, not_false_eq_true]
        rw [eC, eM]
        have wm5 : wWm (wnW R) τ5 := wWm_fr w2 (fun i q => z3 0 i (by omega)) (fun i => z3 18 i (by omega))
        have cm5 : wCm (((C ++ wpD 10 W) ++ wpD 11 (wpW 10 W)) ++ wnD R) τ5 := wCm_rd z3 w3
        obtain ⟨j2, W2, D2, σ', τ', g2', q1, q2, q3, q4, q5, q6, q7, q8, q9, q10, q11, q12, q13, q14, q15, q16, q17⟩ := ih (j + 1) (wnW R) (((C ++ wpD 10 W) ++ wpD 11 (wpW 10 W)) ++ wnD R) s6 τ5 f g (by omega) (by omega) (by omega) hc6 z2 n2 wm5 n3 cm5 v2 v1 (by omega) (by rw [wo_l_app, wo_l_app, wo_l_app]; omega)
        have ea : (((C ++ wpD 10 W) ++ wpD 11 (wpW 10 W)) ++ wnD R) ++ D2 = C ++ (wpD 10 W ++ (wpD 11 (wpW 10 W) ++ (wnD R ++ D2))) := by simp only [List.append_assoc]
        rw [ea] at q7 q9 q13
        refine ⟨j2, W2, wpD 10 W ++ (wpD 11 (wpW 10 W) ++ (wnD R ++ D2)), σ', τ', g2', q1, q2, q3, by omega, q5, q6, q7, q8, q9, q10, q11, q12, q13, q14, ?_, wFx_t (wFx_stC s4) (wFx_t fr5 (wFx_t (wFx_ntC n4) q16)), ?_⟩
        · rw [wo_t_app x5, wo_t_app y5, wo_t_app (wnD_t _ R), ← v3]
          exact q15
        · refine wFx_t (wFx_stM t4) (wFx_t (wFx_stM u4) (wFx_t ?_ (wFx_t (wFx_ntM w4) (wFx_t (wFx_m qOC (wFx_rdO z3)) q17))))
          rw [← ht3]
          exact wFx_u (wFx_u (wFx_r _ _) rfl) rfl
    · have kn : wKd (TS j) (TV j) ≠ 41 := fun q => cc1 ((wKd_s hvj (by omega) (by omega)).1 q)
      have e : f_X6_readClosing_4 (f + 1) 260 σ1 = some (nI 0, σ1) := by
        generalize wKd (TS j) (TV j) = K at *
        simp -implicitDefEqProofs (disch := omega) only [e_X6_readClosing_4, e_X6_readClosing_4__1, e_X6_readClosing_4__2, e_X6_readClosing_4__3, e_X6_readClosing_4__4, e_X6_readClosing_4__5, e_X6_readClosing_4__6, h6, h7, k1, wx_bd, wx_let, wx_st, wx_lit, wx_ga, wx_sa, pk_mul, nI_add, wx_le, wx_lt, wx_eq, wx_en, wx_ne', wx_nn, wx_ltn, wx_len, wx_nlt, wx_nle, wx_bz0, wx_bz1, if_pos, if_neg, wx_ite, Nat.reduceEqDiff, eq_self, if_true, if_false, not_true_eq_false, not_false_eq_true]
      exact ⟨j, W, [], σ1, τ, g, by rw [s1, wx_bd]; exact e, rfl, hg, Nat.le_refl _, s2, hm, by simpa using s3, wm, by simpa using cm, wf, h9, w8, by simpa using hb, by omega, rfl, wFx_stC s4, wFx_r _ _⟩
end CL

/-! units, products, sums -/
section SU
variable {M : Nat} {TS TV TF : Nat → Nat} {RM : Nat → wg_M → Prop}
def wRes (M : Nat) (TS TV TF : Nat → Nat) (RM : Nat → wg_M → Prop) (g : List (Nat × Int32) → Prop) (F G : Option (Int32 × wg_M)) (C : List (Nat × Int32)) (j : Nat) (σ τ : wg_M) : Prop := (∃ σ' τ' D j', F = some (nI 1, σ') ∧ G = some (nI 0, τ') ∧ wTc M TS TV TF j' σ' ∧ RM j' τ' ∧ wCc (C ++ D) σ' ∧ wCm (C ++ D) τ' ∧ j + wo_l D ≤ j' ∧ wFx pS σ σ' ∧ wFx qS τ τ' ∧ g D) ∨ (∃ σ' τ', F = some (nI 0, σ') ∧ G = some (-nI 1, τ') ∧ wE pS qS σ τ σ' τ')
set_option maxHeartbeats 1000000 in
/-- the reference's unit: a number -/
theorem wl_unM (hI : wTi M TS TV TF RM) {C : List (Nat × Int32)} {j : Nat} {τ : wg_M} (hj : j < M) (hm : RM j τ) (cm : wCm C τ) (hb : wo_l C < 400) (k : Nat) (v : Int32) (hk : k ≤ 1) : ∃ τ1 τ', f_X12_emits 0 (nI k) v τ = some (nI 0, τ1) ∧ f_X12_reads 0 τ1 = some (nI 0, τ') ∧ RM (j + 1) τ' ∧ wCm (C ++ [(k, v)]) τ' ∧ wFx qS τ τ' := by
  obtain ⟨τ1, e1, e2, e3⟩ := wl_emi cm hb k v v (by omega) (by omega) (fun _ => rfl)
  have hm1 : RM j τ1 := hI.2.1 j τ τ1 hm (fun a i q => e3 a i (by omega) (by omega))
  obtain ⟨τ', r1, r2, r3⟩ := hI.2.2 j τ1 hj hm1
  refine ⟨τ1, τ', e1, r1, r2, wCm_fr (r3 0 29 (by omega)) (fun i => r3 16 i (by omega)) (fun i => r3 17 i (by omega)) e2, fun a i q => ?_⟩
  simp only [qS, Bool.or_eq_false_iff, Bool.and_eq_false_iff, beq_eq_false_iff_ne, decide_eq_false_iff_not] at q
  rw [r3 a i (by omega), e3 a i (by omega) (by omega)]
set_option maxHeartbeats 1000000 in
theorem wl_unit (hO : wTo M TS TV) (hI : wTi M TS TV TF RM) {C : List (Nat × Int32)} {j : Nat} {σ τ : wg_M} (hc : wTc M TS TV TF j σ) (hm : RM j τ) (cc : wCc C σ) (cm : wCm C τ) (hb : wo_l C ≤ j) : wRes M TS TV TF RM (fun D => ∀ st : List Bool, st.length < 30 → wo_t D st = some (false :: st)) (f_X6_readUnit 260 σ) (f_X12_readUnit 0 τ) C j σ τ := by
  obtain ⟨hM, hM0, hv⟩ := id hO
  obtain ⟨jM, h6, h7, hk⟩ := id hc
  obtain ⟨k1, k2, k3⟩ := hk j jM
  obtain ⟨r1, r2, r3⟩ := hI.1 j τ hm
  have hv := hv j jM
  have hl := wo_len C
  by_cases c3 : TS j = 3
  · have jlt := wTo_lt hO jM (by omega)
    have e2 := k2 c3
    have r2 := r2 (by omega)
    rw [(wKd_n hv).2 c3] at k1
    rw [c3] at r1
    obtain ⟨σ1, p1, p2, p3⟩ := wl_put cc (by omega) 0 (nI (TV j))
    have p1 : f_X3_put 266 (nI 2) (nI (TV j)) σ = some (nI 0, σ1) := p1
    have s7 : σ1 260 7 = nI j := by rw [p3 260 7 (by omega) (by omega) (by omega)]; exact h7
    obtain ⟨τ1, τ', t1, t2, t3, t4, t5⟩ := wl_unM hI jlt hm cm (by omega) 0 (nI (TV j)) (by omega)
    refine Or.inl ⟨wg_u σ1 260 7 (nI (j + 1)), τ', [(0, nI (TV j))], j + 1, ?_, ?_, ?_, t3, ?_, t4, by show j + 1 ≤ j + 1; omega, ?_, t5, fun st hst => ?_⟩
    · simp -implicitDefEqProofs (disch := omega) only [e_X6_readUnit, e_X6_readUnit__1, e_X6_readUnit__2, e_X6_readUnit__3, e_X6_readUnit__4, e_X6_readUnit__5, e_X6_readUnit__6, e_X6_readUnit__7, e_X6_readUnit__8, e_X6_readUnit_84, e_X6_readUnit_84__1, h7, k1, e2, p1, s7, wx_bd, wx_let, wx_st, wx_lit, wx_ga, wx_sa, pk_mul, nI_add, wx_le, wx_lt, wx_eq, wx_en, wx_ne', wx_nn, wx_ltn, wx_len, wx_nlt, wx_nle, wx_bz0, wx_bz1, if_pos, if_neg, wx_ite, Nat.reduceEqDiff, eq_self, if_true, if_false, not_true_eq_false, not_false_eq_true]
    · simp -implicitDefEqProofs (disch := omega) only [e_X12_readUnit, e_X12_readUnit__1, e_X12_readUnit_23, e_X12_readUnit_24, e_X12_readUnit_24__1, e_X12_readUnit_43, e_X12_readUnit_53, e_X12_readUnit_71, e_X12_readUnit_71__1, e_X12_readUnit_71__2, r1, r2, t1, t2, wx_bd, wx_let, wx_st, wx_lit, wx_ga, wx_sa, pk_mul, nI_add, wx_le, wx_lt, wx_eq, wx_en, wx_ne', wx_nn, wx_ltn, wx_len, wx_nlt, wx_nle, wx_bz0, wx_bz1, if_pos, if_neg, wx_ite, Nat.reduceEqDiff, eq_self, if_true, if_false, not_true_eq_false, not_false_eq_true]
    · exact wTc_nx (wTc_fr hc (fun a i q => p3 a i (by omega) (by omega) (by omega))) jlt
    · exact wCc_fr (by rw [wx_un (by omega)]) (fun i => by rw [wx_un (by omega)]) (fun i => by rw [wx_un (by omega)]) p2
    · refine wFx_u (fun a i q => ?_) rfl
      simp only [pS, Bool.or_eq_false_iff, Bool.and_eq_false_iff, beq_eq_false_iff_ne] at q
      exact p3 a i (by omega) (by omega) (by omega)
    · simp only [wo_t, hst, if_true]
  · by_cases c2 : TS j = 2 ∧ 7 ≤ TV j ∧ TV j < 17
    · obtain ⟨c2, v1, v2⟩ := c2
      have jlt := wTo_lt hO jM (by omega)
      have r2 := r2 (by omega)
      have kk : wKd (TS j) (TV j) = 249 + TV j := by
        rw [c2]
        show (if TV j < 7 then 266 + TV j else if TV j < 17 then 249 + TV j else 256 + TV j) = _
        rw [if_neg (by omega), if_pos (by omega)]
      rw [kk] at k1
      rw [c2] at r1
      obtain ⟨σ1, p1, p2, p3⟩ := wl_put cc (by omega) 1 (nI (TV j - 7))
      have p1 : f_X3_put 266 (nI 3) (nI (TV j - 7)) σ = some (nI 0, σ1) := p1
      have s7 : σ1 260 7 = nI j := by rw [p3 260 7 (by omega) (by omega) (by omega)]; exact h7
      have sb : nI (249 + TV j) - nI 256 = nI (TV j - 7) := by rw [wx_sub (by omega), show 249 + TV j - 256 = TV j - 7 by omega]
      have sb2 : nI (TV j) - nI 7 = nI (TV j - 7) := wx_sub (by omega)
      obtain ⟨τ1, τ', t1, t2, t3, t4, t5⟩ := wl_unM hI jlt hm cm (by omega) 1 (nI (TV j - 7)) (by omega)
      refine Or.inl ⟨wg_u σ1 260 7 (nI (j + 1)), τ', [(1, nI (TV j - 7))], j + 1, ?_, ?_, ?_, t3, ?_, t4, by show j + 1 ≤ j + 1; omega, ?_, t5, fun st hst => ?_⟩
      · simp -implicitDefEqProofs (disch := omega) only [e_X6_readUnit, e_X6_readUnit__1, e_X6_readUnit__2, e_X6_readUnit__3, e_X6_readUnit__4, e_X6_readUnit__5, e_X6_readUnit__6, e_X6_readUnit__7, e_X6_readUnit__8, e_X6_readUnit_84, e_X6_readUnit_84__1, e_X11_within, h7, k1, sb, p1, s7, wx_bd, wx_let, wx_st, wx_lit, wx_ga, wx_sa, pk_mul, nI_add, wx_le, wx_lt, wx_eq, wx_en, wx_ne', wx_nn, wx_ltn, wx_len, wx_nlt, wx_nle, wx_bz0, wx_bz1, if_pos, if_neg, wx_ite, Nat.reduceEqDiff, eq_self, if_true, if_false, not_true_eq_false, not_false_eq_true]
      · simp -implicitDefEqProofs (disch := omega) only [e_X12_readUnit, e_X12_readUnit__1, e_X12_readUnit_23, e_X12_readUnit_24, e_X12_readUnit_24__1, e_X12_readUnit_43, e_X12_readUnit_53, e_X12_readUnit_71, e_X12_readUnit_71__1, e_X12_readUnit_71__2, e_X12_canAsk, e_X12_canAsk__1, e_X12_isIn, r1, r2, sb2, t1, t2, wx_bd, wx_let, wx_st, wx_lit, wx_ga, wx_sa, pk_mul, nI_add, wx_le, wx_lt, wx_eq, wx_en, wx_ne', wx_nn, wx_ltn, wx_len, wx_nlt, wx_nle, wx_bz0, wx_bz1, if_pos, if_neg, wx_ite, Nat.reduceEqDiff, eq_self, if_true, if_false, not_true_eq_false, not_false_eq_true]
      · exact wTc_nx (wTc_fr hc (fun a i q => p3 a i (by omega) (by omega) (by omega))) jlt
      · exact wCc_fr (by rw [wx_un (by omega)]) (fun i => by rw [wx_un (by omega)]) (fun i => by rw [wx_un (by omega)]) p2
      · refine wFx_u (fun a i q => ?_) rfl
        simp only [pS, Bool.or_eq_false_iff, Bool.and_eq_false_iff, beq_eq_false_iff_ne] at q
        exact p3 a i (by omega) (by omega) (by omega)
      · have ti : (nI (TV j - 7)).toInt = ((TV j - 7 : Nat) : Int) := nI_toInt (by omega)
        rw [wo_t, if_pos ⟨hst, by rw [ti]; omega, by rw [ti]; omega⟩]
        rfl
    · have fl := wl_fail hO hc (nI 1)
      have er := wl_errs (TF := TF) (j := j) r3 (nI 1)
      have kn : wKd (TS j) (TV j) ≠ 2 := fun q => c3 ((wKd_n hv).1 q)
      have kf : wKd (TS j) (TV j) < 256 ∨ 265 < wKd (TS j) (TV j) := by
        unfold wTv at hv
        unfold wKd
        repeat' split
        all_goals omega
      have kl := wKd_lt hv
      have hv2 : wTv (TS j) (TV j) := hv
      generalize wKd (TS j) (TV j) = K at *
      refine Or.inr ⟨_, _, ?_, ?_, wE_mk (wFx_r _ _) (wFx_r _ _) rfl rfl rfl rfl (nI 1) (nI (TF j))⟩
      · rcases kf with q | q
        · simp -implicitDefEqProofs (disch := omega) only [e_X6_readUnit, e_X6_readUnit__1, e_X6_readUnit__2, e_X6_readUnit__3, e_X6_readUnit__4, e_X6_readUnit__5, e_X6_readUnit__6, e_X6_readUnit__7, e_X6_readUnit__8, e_X11_within, h7, k1, fl, wx_bd, wx_let, wx_st, wx_lit, wx_ga, wx_sa, pk_mul, nI_add, wx_le, wx_lt, wx_eq, wx_en, wx_ne', wx_nn, wx_ltn, wx_len, wx_nlt, wx_nle, wx_bz0, wx_bz1, if_pos, if_neg, wx_ite, Nat.reduceEqDiff, eq_self, if_true, if_false, not_true_eq_false, not_false_eq_true]
        · simp -implicitDefEqProofs (disch := omega) only [e_X6_readUnit, e_X6_readUnit__1, e_X6_readUnit__2, e_X6_readUnit__3, e_X6_readUnit__4, e_X6_readUnit__5, e_X6_readUnit__6, e_X6_readUnit__7, e_X6_readUnit__8, e_X11_within, h7, k1, fl, wx_bd, wx_let, wx_st, wx_lit, wx_ga, wx_sa, pk_mul, nI_add, wx_le, wx_lt, wx_eq, wx_en, wx_ne', wx_nn, wx_ltn, wx_len, wx_nlt, wx_nle, wx_bz0, wx_bz1, if_pos, if_neg, wx_ite, Nat.reduceEqDiff, eq_self, if_true, if_false, not_true_eq_false, not_false_eq_true]
      · by_cases z : TS j = 2
        · have r2 := r2 (by omega)
          rw [z] at r1
          unfold wTv at hv2
          rcases (show TV j < 7 ∨ 16 < TV j by omega) with q | q
          · simp -implicitDefEqProofs (disch := omega) only [e_X12_readUnit, e_X12_readUnit__1, e_X12_readUnit_23, e_X12_readUnit_24, e_X12_readUnit_24__1, e_X12_canAsk, e_X12_canAsk__1, e_X12_isIn, r1, r2, er, wx_bd, wx_let, wx_st, wx_lit, wx_ga, wx_sa, pk_mul, nI_add, wx_le, wx_lt, wx_eq, wx_en, wx_ne', wx_nn, wx_ltn, wx_len, wx_nlt, wx_nle, wx_bz0, wx_bz1, if_pos, if_neg, wx_ite, Nat.reduceEqDiff, eq_self, if_true, if_false, not_true_eq_false, not_false_eq_true]
          · simp -implicitDefEqProofs (disch := omega) only [e_X12_readUnit, e_X12_readUnit__1, e_X12_readUnit_23, e_X12_readUnit_24, e_X12_readUnit_24__1, e_X12_canAsk, e_X12_canAsk__1, e_X12_isIn, r1, r2, er, wx_bd, wx_let, wx_st, wx_lit, wx_ga, wx_sa, pk_mul, nI_add, wx_le, wx_lt, wx_eq, wx_en, wx_ne', wx_nn, wx_ltn, wx_len, wx_nlt, wx_nle, wx_bz0, wx_bz1, if_pos, if_neg, wx_ite, Nat.reduceEqDiff, eq_self, if_true, if_false, not_true_eq_false, not_false_eq_true]
        · have : TS j < 100 := by unfold wTv at hv2; omega
          simp -implicitDefEqProofs (disch := omega) only [e_X12_readUnit, e_X12_readUnit__1, e_X12_readUnit_23, e_X12_readUnit_24, e_X12_readUnit_24__1, r1, er, wx_bd, wx_let, wx_st, wx_lit, wx_ga, wx_sa, pk_mul, nI_add, wx_le, wx_lt, wx_eq, wx_en, wx_ne', wx_nn, wx_ltn, wx_len, wx_nlt, wx_nle, wx_bz0, wx_bz1, if_pos, if_neg, wx_ite, Nat.reduceEqDiff, eq_self, if_true, if_false, not_true_eq_false, not_false_eq_true]
end SU

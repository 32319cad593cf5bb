/-! THE LAW's lines -/
def pK (k a i : Nat) : Bool := pC a i || (a == 266 && i == 6) || ((a == 269 || a == 270 || a == 271) && i == k)
def qK (k a i : Nat) : Bool := qC a i || ((a == 12 || a == 13 || a == 14 || a == 15) && i == 32 + k)
def pL (a i : Nat) : Bool := pC a i || (a == 266 && i == 6) || a == 269 || a == 270 || a == 271
def qL (a i : Nat) : Bool := qC a i || ((a == 12 || a == 13 || a == 14 || a == 15) && decide (32 ≤ i))
set_option maxHeartbeats 1000000 in
theorem pCK {k : Nat} (a i : Nat) (h : pC a i = true) : pK k a i = true := by simp [pK, h]
set_option maxHeartbeats 1000000 in
theorem qCK {k : Nat} (a i : Nat) (h : qC a i = true) : qK k a i = true := by simp [qK, h]
set_option maxHeartbeats 1000000 in
theorem pKL {k : Nat} (a i : Nat) (h : pK k a i = true) : pL a i = true := by
  simp only [pK, Bool.or_eq_true, Bool.and_eq_true, beq_iff_eq] at h
  simp only [pL, Bool.or_eq_true, Bool.and_eq_true, beq_iff_eq]
  rcases h with (h | h) | h
  · exact Or.inl (Or.inl (Or.inl (Or.inl h)))
  · exact Or.inl (Or.inl (Or.inl (Or.inr h)))
  · omega
set_option maxHeartbeats 1000000 in
theorem qKL {k : Nat} (a i : Nat) (h : qK k a i = true) : qL a i = true := by
  simp only [qK, Bool.or_eq_true, Bool.and_eq_true, beq_iff_eq] at h
  simp only [qL, Bool.or_eq_true, Bool.and_eq_true, beq_iff_eq, decide_eq_true_eq]
  rcases h with h | h
  · exact Or.inl h
  · exact Or.inr ⟨h.1, by omega⟩
def wLi (l : Nat) (A c1 c2 : List (Nat × Int32)) (σ τ : wg_M) : Prop := (∃ w, w < 3 ∧ σ 269 l = nI (266 + w) ∧ τ 12 (32 + l) = nI w) ∧ σ 270 l = nI (A.length + c1.length) ∧ σ 271 l = nI (A.length + c1.length + c2.length) ∧ τ 13 (32 + l) = nI (wo_l A) ∧ τ 14 (32 + l) = nI (wo_l A + wo_l c1) ∧ τ 15 (32 + l) = nI (wo_l A + wo_l c1 + wo_l c2) ∧ wo_t c1 [] = some [false] ∧ (c2 = [] ∨ wo_t c2 [] = some [true])
set_option maxHeartbeats 1000000 in
theorem wLi_fr {k l : Nat} {A c1 c2 : List (Nat × Int32)} {σ τ σ' τ' : wg_M} (hl : l ≠ k) (hσ : wFx (pK k) σ σ') (hτ : wFx (qK k) τ τ') (h : wLi l A c1 c2 σ τ) : wLi l A c1 c2 σ' τ' := by
  have p9 := hσ 269 l (by simp [pK, pC, pS, hl])
  have p10 := hσ 270 l (by simp [pK, pC, pS, hl])
  have p11 := hσ 271 l (by simp [pK, pC, pS, hl])
  have ne : ¬ 32 + l = 32 + k := by omega
  have q12 := hτ 12 (32 + l) (by simp [qK, qC, qS, ne, hl])
  have q13 := hτ 13 (32 + l) (by simp [qK, qC, qS, ne, hl])
  have q14 := hτ 14 (32 + l) (by simp [qK, qC, qS, ne, hl])
  have q15 := hτ 15 (32 + l) (by simp [qK, qC, qS, ne, hl])
  unfold wLi
  rw [p9, p10, p11, q12, q13, q14, q15]
  exact h
section LL
variable {M : Nat} {TS TV TF : Nat → Nat} {RM : Nat → wg_M → Prop}
set_option maxHeartbeats 1000000 in
theorem wl_exp1 {j c : Nat} {σ : wg_M} (hO : wTo M TS TV) (hc : wTc M TS TV TF j σ) (e : wKd (TS j) (TV j) = c) : f_X6_expect 260 (nI c) σ = some (nI 1, wg_u σ 260 7 (nI (j + 1))) := by
  obtain ⟨jM, h6, h7, hk⟩ := hc
  obtain ⟨k1, -, -⟩ := hk j jM
  have hM := hO.1
  have kl := wKd_lt (hO.2.2 j jM)
  rw [e] at k1 kl
  simp -implicitDefEqProofs (disch := omega) only [e_X6_expect, e_X6_expect__1, e_X6_expect__2, e_X6_expect__3, h7, k1, wx_bd, wx_let, wx_st, wx_lit, wx_ga, wx_sa, pk_mul, nI_add, wx_le, wx_lt, wx_eq, wx_en, wx_ne', wx_nn, wx_ltn, wx_len, wx_nlt, wx_nle, wx_bz0, wx_bz1, if_pos, if_neg, wx_ite, Nat.reduceEqDiff, eq_self, if_true, if_false, not_true_eq_false, not_false_eq_true]
set_option maxHeartbeats 1000000 in
theorem wl_exp0 {j c : Nat} {σ : wg_M} (hO : wTo M TS TV) (hc : wTc M TS TV TF j σ) (hc3 : c < 300) (e : wKd (TS j) (TV j) ≠ c) : f_X6_expect 260 (nI c) σ = some (nI 0, wg_u (wg_u σ 260 8 (nI 1)) 260 9 (nI (TF j))) := by
  have fl := wl_fail hO hc (nI 1)
  obtain ⟨jM, h6, h7, hk⟩ := hc
  obtain ⟨k1, -, -⟩ := hk j jM
  have hM := hO.1
  have kl := wKd_lt (hO.2.2 j jM)
  generalize wKd (TS j) (TV j) = K at *
  simp -implicitDefEqProofs (disch := omega) only [e_X6_expect, e_X6_expect__1, e_X6_expect__2, e_X6_expect__3, h7, k1, fl, wx_bd, wx_let, wx_st, wx_lit, wx_ga, wx_sa, pk_mul, nI_add, wx_le, wx_lt, wx_eq, wx_en, wx_ne', wx_nn, wx_ltn, wx_len, wx_nlt, wx_nle, wx_bz0, wx_bz1, if_pos, if_neg, wx_ite, Nat.reduceEqDiff, eq_self, if_true, if_false, not_true_eq_false, not_false_eq_true]
set_option maxHeartbeats 1000000 in
theorem wl_fin (hO : wTo M TS TV) (hI : wTi M TS TV TF RM) {A D1 D2 : List (Nat × Int32)} {k j w : Nat} {σ τ : wg_M} (hk : k < 16) (hw : w < 3) (hc : wTc M TS TV TF j σ) (hm : RM j τ) (cc : wCc ((A ++ D1) ++ D2) σ) (cm : wCm ((A ++ D1) ++ D2) τ) (hb : wo_l ((A ++ D1) ++ D2) ≤ j) (l6 : σ 266 6 = nI k) (s9 : σ 269 k = nI (266 + w)) (s10 : σ 270 k = nI (A ++ D1).length) (t12 : τ 12 (32 + k) = nI w) (t13 : τ 13 (32 + k) = nI (wo_l A)) (t14 : τ 14 (32 + k) = nI (wo_l (A ++ D1))) (ty1 : wo_t D1 [] = some [false]) (ty2 : D2 = [] ∨ wo_t D2 [] = some [true]) : (∃ σ' τ', f_X6_readLawLine_136 260 (nI k) σ = some (nI 1, σ') ∧ (∀ g, f_X12_readLaw_92 (f_X12_readLaw_2 g) 0 (nI k) (nI (32 + k)) τ = f_X12_readLaw_2 g 0 (nI (k + 1)) τ') ∧ wTc M TS TV TF (j + 1) σ' ∧ RM (j + 1) τ' ∧ wCc ((A ++ D1) ++ D2) σ' ∧ wCm ((A ++ D1) ++ D2) τ' ∧ σ' 266 6 = nI (k + 1) ∧ τ' 0 30 = τ 0 30 ∧ wLi k A D1 D2 σ' τ' ∧ wFx (pK k) σ σ' ∧ wFx (qK k) τ τ') ∨ (∃ σ' τ', f_X6_readLawLine_136 260 (nI k) σ = some (nI 0, σ') ∧ (∀ g, f_X12_readLaw_92 (f_X12_readLaw_2 g) 0 (nI k) (nI (32 + k)) τ = some (-nI 1, τ')) ∧ wE (pK k) (qK k) σ τ σ' τ') := by
  obtain ⟨hM, hM0, hv⟩ := id hO
  have jM := hc.1
  have lc := wo_len ((A ++ D1) ++ D2)
  have hcA : wTc M TS TV TF j (wg_u (wg_u σ 271 k (nI ((A ++ D1) ++ D2).length)) 266 6 (nI (k + 1))) := wTc_fr hc (fun a i q => by rw [wx_ur, if_neg (by omega), wx_ur, if_neg (by omega)])
  have hmA : RM j (wg_u τ 15 (32 + k) (nI (wo_l ((A ++ D1) ++ D2)))) := hI.2.1 j τ _ hm (fun a i q => by rw [wx_ur, if_neg (by omega)])
  obtain ⟨r1, r2, r3⟩ := hI.1 j _ hmA
  obtain ⟨-, h6, h7, hk'⟩ := id hcA
  obtain ⟨k1, k2, k3⟩ := hk' j jM
  have hvj := hv j jM
  have kl := wKd_lt hvj
  have s2 := cc.1
  have m29 := cm.1
  have fσ : wFx (pK k) σ (wg_u (wg_u σ 271 k (nI ((A ++ D1) ++ D2).length)) 266 6 (nI (k + 1))) := wFx_u (wFx_u (wFx_r _ _) (by simp [pK])) rfl
  have fτ : wFx (qK k) τ (wg_u τ 15 (32 + k) (nI (wo_l ((A ++ D1) ++ D2)))) := wFx_u (wFx_r _ _) (by simp [qK])
  by_cases c : TS j = 4 ∧ TV j = 59
  · have jlt := wTo_lt hO jM (by omega)
    have sg := wl_sg1 r1 r2 c
    have hcB := wTc_nx hcA jlt
    obtain ⟨τ1, t1, t2, t3⟩ := hI.2.2 j _ jlt hmA
    refine Or.inl ⟨_, τ1, ?_, fun g => ?_, hcB, t2, ?_, ?_, ?_, ?_, ⟨⟨w, hw, ?_, ?_⟩, ?_, ?_, ?_, ?_, ?_, ty1, ty2⟩, wFx_u fσ rfl, wFx_t fτ (wFx_m qCK (wFx_m qOC (wFx_rdO t3)))⟩
    · have ex := wl_exp1 hO hcA ((wKd_s hvj (c := 59) (by omega) (by omega)).2 c)
      simp -implicitDefEqProofs (disch := omega) only [e_X6_readLawLine_136, e_X6_readLawLine_136__1, e_X6_readLawLine_136__2, e_X6_readLawLine_136__3, s2, l6, ex, wx_uk, wx_un, pk_us, pk_un, wx_bd, wx_let, wx_st, wx_lit, wx_ga, wx_sa, pk_mul, nI_add, wx_le, wx_lt, wx_eq, wx_en, wx_ne', wx_nn, wx_ltn, wx_len, wx_nlt, wx_nle, wx_bz0, wx_bz1, if_pos, if_neg, wx_ite, Nat.reduceEqDiff, eq_self, if_true, if_false, not_true_eq_false, not_false_eq_true]
    · simp -implicitDefEqProofs (disch := omega) only [e_X12_readLaw_92, e_X12_readLaw_92__1, e_X12_readLaw_92__2, e_X12_readLaw_92__3, e_X12_readLaw_92__4, e_X12_readLaw_92__5, m29, sg, t1, wx_bd, wx_let, wx_st, wx_lit, wx_ga, wx_sa, pk_mul, nI_add, wx_le, wx_lt, wx_eq, wx_en, wx_ne', wx_nn, wx_ltn, wx_len, wx_nlt, wx_nle, wx_bz0, wx_bz1, if_pos, if_neg, wx_ite, Nat.reduceEqDiff, eq_self, if_true, if_false, not_true_eq_false, not_false_eq_true]
    · exact wCc_at (wCc_fr (by simp -implicitDefEqProofs (disch := omega) only [wx_uk, wx_un, pk_us, pk_un]) (fun i => by simp -implicitDefEqProofs (disch := omega) only [wx_uk, wx_un, pk_us, pk_un]) (fun i => by simp -implicitDefEqProofs (disch := omega) only [wx_uk, wx_un, pk_us, pk_un]) cc)
    · exact wCm_rd t3 (wCm_fr (by simp -implicitDefEqProofs (disch := omega) only [wx_uk, wx_un, pk_us, pk_un]) (fun i => by simp -implicitDefEqProofs (disch := omega) only [wx_uk, wx_un, pk_us, pk_un]) (fun i => by simp -implicitDefEqProofs (disch := omega) only [wx_uk, wx_un, pk_us, pk_un]) cm)
    · simp -implicitDefEqProofs (disch := omega) only [wx_uk, wx_un, pk_us, pk_un]
    · rw [t3 0 30 (by omega), wx_un (by omega)]
    · simp -implicitDefEqProofs (disch := omega) only [wx_uk, wx_un, pk_us, pk_un]; exact s9
    · rw [t3 12 _ (by omega), wx_un (by omega)]; exact t12
    · simp -implicitDefEqProofs (disch := omega) only [wx_uk, wx_un, pk_us, pk_un]; rw [s10, List.length_append]
    · simp -implicitDefEqProofs (disch := omega) only [wx_uk, wx_un, pk_us, pk_un]; rw [List.length_append, List.length_append]
    · rw [t3 13 _ (by omega), wx_un (by omega)]; exact t13
    · rw [t3 14 _ (by omega), wx_un (by omega), t14, wo_l_app]
    · rw [t3 15 _ (by omega), wx_uk, pk_us, wo_l_app, wo_l_app]
  · have kn : wKd (TS j) (TV j) ≠ 59 := fun q => c ((wKd_s hvj (by omega) (by omega)).1 q)
    have sg := wl_sg0 (c := 59) hO jM (by omega) r1 r2 c
    have fl := wl_fail hO hcA (nI 1)
    have er := wl_errs (TF := TF) (j := j) r3 (nI 1)
    refine Or.inr ⟨_, _, ?_, fun g => ?_, wE_mk fσ fτ rfl rfl rfl rfl (nI 1) (nI (TF j))⟩
    · have ex := wl_exp0 hO hcA (by omega) kn
      simp -implicitDefEqProofs (disch := omega) only [e_X6_readLawLine_136, e_X6_readLawLine_136__1, e_X6_readLawLine_136__2, e_X6_readLawLine_136__3, s2, l6, ex, wx_uk, wx_un, pk_us, pk_un, wx_bd, wx_let, wx_st, wx_lit, wx_ga, wx_sa, pk_mul, nI_add, wx_le, wx_lt, wx_eq, wx_en, wx_ne', wx_nn, wx_ltn, wx_len, wx_nlt, wx_nle, wx_bz0, wx_bz1, if_pos, if_neg, wx_ite, Nat.reduceEqDiff, eq_self, if_true, if_false, not_true_eq_false, not_false_eq_true]
    · simp -implicitDefEqProofs (disch := omega) only [e_X12_readLaw_92, e_X12_readLaw_92__1, e_X12_readLaw_92__2, e_X12_readLaw_92__3, e_X12_readLaw_92__4, e_X12_readLaw_92__5, m29, sg, er, wx_bd, wx_let, wx_st, wx_lit, wx_ga, wx_sa, pk_mul, nI_add, wx_le, wx_lt, wx_eq, wx_en, wx_ne', wx_nn, wx_ltn, wx_len, wx_nlt, wx_nle, wx_bz0, wx_bz1, if_pos, if_neg, wx_ite, Nat.reduceEqDiff, eq_self, if_true, if_false, not_true_eq_false, not_false_eq_true]
end LL

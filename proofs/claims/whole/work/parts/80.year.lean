/-! trials, moth, years -/
section YR
variable {th : Bool} {nw nj nc : Nat} {σ τ : wg_M}
set_option maxHeartbeats 1000000 in
theorem wl_setD (h : wX th nw nj nc σ τ) (v : Int32) : wX th nw nj nc (wg_u σ 1 8 v) (wg_u τ 1 1 v) ∧ wFr σ (wg_u σ 1 8 v) τ (wg_u τ 1 1 v) := by
  have hf : wFr σ (wg_u σ 1 8 v) τ (wg_u τ 1 1 v) := ⟨fun a q _ _ => wx_un (by omega), fun a q _ _ _ => wx_un q, by simp -implicitDefEqProofs (disch := omega) only [wx_uk, wx_un, pk_us, pk_un]⟩
  have h2 := h.2.1
  refine ⟨wX_mk h (wFr_q hf) ?_ (wPg_fr (fun a q1 q2 => wx_un (by omega)) (fun i _ => by rw [wx_un (by omega)]) h.2.2.1), hf⟩
  refine wB_sc ⟨h.1.1, h.1.2.1, h.1.2.2.1⟩ h2 (fun a q1 q2 => wx_un (by omega)) ?_ ?_ ?_ ?_ ?_ (fun i q1 q2 => ?_) (fun i _ => ?_) (fun i _ => ?_) (fun i _ => ?_) (fun i _ => ?_)
  · simp -implicitDefEqProofs (disch := omega) only [wx_uk, wx_un, pk_us, pk_un]
  · simp -implicitDefEqProofs (disch := omega) only [wx_uk, wx_un, pk_us, pk_un]; exact wb_year h2
  · simp -implicitDefEqProofs (disch := omega) only [wx_uk, wx_un, pk_us, pk_un]
  · simp -implicitDefEqProofs (disch := omega) only [wx_uk, wx_un, pk_us, pk_un]; exact wb_lines h2
  · simp -implicitDefEqProofs (disch := omega) only [wx_uk, wx_un, pk_us, pk_un]; exact h2.1.2.2.2.2.2.2
  all_goals simp -implicitDefEqProofs (disch := omega) only [wx_uk, wx_un, pk_us, pk_un]
set_option maxHeartbeats 1000000 in
theorem wl_setY (h : wX th nw nj nc σ τ) (v : Int32) : wX th nw nj nc (wg_u σ 1 7 v) (wg_u τ 1 0 v) ∧ wFq σ (wg_u σ 1 7 v) τ (wg_u τ 1 0 v) := by
  have hf : wFq σ (wg_u σ 1 7 v) τ (wg_u τ 1 0 v) := ⟨fun a q _ _ => wx_un (by omega), fun a q _ _ _ => wx_un q⟩
  have h2 := h.2.1
  refine ⟨wX_mk h hf ?_ (wPg_fr (fun a q1 q2 => wx_un (by omega)) (fun i _ => by rw [wx_un (by omega)]) h.2.2.1), hf⟩
  refine wB_sc ⟨h.1.1, h.1.2.1, h.1.2.2.1⟩ h2 (fun a q1 q2 => wx_un (by omega)) ?_ ?_ ?_ ?_ ?_ (fun i q1 q2 => ?_) (fun i _ => ?_) (fun i _ => ?_) (fun i _ => ?_) (fun i _ => ?_)
  · simp -implicitDefEqProofs (disch := omega) only [wx_uk, wx_un, pk_us, pk_un]
  · simp -implicitDefEqProofs (disch := omega) only [wx_uk, wx_un, pk_us, pk_un]
  · simp -implicitDefEqProofs (disch := omega) only [wx_uk, wx_un, pk_us, pk_un]; exact wb_draws h2
  · simp -implicitDefEqProofs (disch := omega) only [wx_uk, wx_un, pk_us, pk_un]; exact wb_lines h2
  · simp -implicitDefEqProofs (disch := omega) only [wx_uk, wx_un, pk_us, pk_un]; exact h2.1.2.2.2.2.2.2
  all_goals simp -implicitDefEqProofs (disch := omega) only [wx_uk, wx_un, pk_us, pk_un]
set_option maxHeartbeats 1000000 in
/-- a CASE is judged -/
theorem wl_setC (h : wX th nw nj nc σ τ) {c n j : Nat} (hc : c < nc) (hn : n < 1999) : wX th nw nj nc (wg_u (wg_u σ 19 c (nI n - nI 999)) 20 c (nI j)) (wg_u (wg_u τ 1 (267 + c) (nI (n + 1))) 1 (281 + c) (nI (j + 1))) ∧ wFr σ (wg_u (wg_u σ 19 c (nI n - nI 999)) 20 c (nI j)) τ (wg_u (wg_u τ 1 (267 + c) (nI (n + 1))) 1 (281 + c) (nI (j + 1))) := by
  have hf : wFr σ (wg_u (wg_u σ 19 c (nI n - nI 999)) 20 c (nI j)) τ (wg_u (wg_u τ 1 (267 + c) (nI (n + 1))) 1 (281 + c) (nI (j + 1))) := ⟨fun a q _ _ => by simp -implicitDefEqProofs (disch := omega) only [wx_uk, wx_un, pk_us, pk_un], fun a q _ _ _ => by simp -implicitDefEqProofs (disch := omega) only [wx_uk, wx_un, pk_us, pk_un], by simp -implicitDefEqProofs (disch := omega) only [wx_uk, wx_un, pk_us, pk_un]⟩
  have h2 := h.2.1
  obtain ⟨n1, n2, n3, -⟩ := h.1
  refine ⟨wX_mk h (wFr_q hf) ?_ (wPg_fr (fun a q1 q2 => by simp -implicitDefEqProofs (disch := omega) only [wx_uk, wx_un, pk_us, pk_un]) (fun i _ => by simp -implicitDefEqProofs (disch := omega) only [wx_uk, wx_un, pk_us, pk_un]) h.2.2.1), hf⟩
  obtain ⟨a1, a2, a3, a4, a5⟩ := h2
  refine ⟨?_, fun i hi => ?_, fun w hw => ?_, fun i hi => ?_, ?_⟩
  · simp -implicitDefEqProofs (disch := omega) only [Nat.reduceAdd, wx_uk, wx_un, pk_us, pk_un] at a1 ⊢; exact a1
  · have := a2 i hi
    unfold wJ at this ⊢
    simp -implicitDefEqProofs (disch := omega) only [Nat.reduceAdd, wx_uk, wx_un, pk_us, pk_un] at this ⊢; exact this
  · obtain ⟨c1, c2, c3, c4, c5, k, c6, c7, c8⟩ := a3 w hw
    refine ⟨?_, ?_, ?_, ?_, ?_, k, c6, ?_, fun x hx => ?_⟩
    · simp -implicitDefEqProofs (disch := omega) only [Nat.reduceAdd, wx_uk, wx_un, pk_us, pk_un] at c1 ⊢; exact c1
    · simp -implicitDefEqProofs (disch := omega) only [Nat.reduceAdd, wx_uk, wx_un, pk_us, pk_un] at c2 ⊢; exact c2
    · simp -implicitDefEqProofs (disch := omega) only [Nat.reduceAdd, wx_uk, wx_un, pk_us, pk_un] at c3 ⊢; exact c3
    · simp -implicitDefEqProofs (disch := omega) only [Nat.reduceAdd, wx_uk, wx_un, pk_us, pk_un] at c4 ⊢; exact c4
    · simp -implicitDefEqProofs (disch := omega) only [Nat.reduceAdd, wx_uk, wx_un, pk_us, pk_un] at c5 ⊢; exact c5
    · simp -implicitDefEqProofs (disch := omega) only [wx_uk, wx_un, pk_us, pk_un]; exact c7
    · have := c8 x hx
      unfold wU at this ⊢
      simp -implicitDefEqProofs (disch := omega) only [Nat.reduceAdd, wx_uk, wx_un, pk_us, pk_un] at this ⊢; exact this
  · have := a4 i hi
    unfold wC at this ⊢
    by_cases ci : i = c
    · subst ci
      simp -implicitDefEqProofs (disch := omega) only [Nat.reduceAdd, wx_uk, wx_un, pk_us, pk_un, wx_sub1] at this ⊢
      refine ⟨this.1, this.2.1, Or.inr ⟨n + 1, by omega, by omega, rfl, ?_⟩, trivial, this.2.2.2.2⟩
      apply Int32.toInt_inj.mp
      rw [pk_sub_toInt (by omega) (by omega), pk_sub_toInt (by omega) (by omega)]
      omega
    · simp -implicitDefEqProofs (disch := omega) only [Nat.reduceAdd, wx_uk, wx_un, pk_us, pk_un] at this ⊢
      exact this
  · intro i k hi hk
    simp -implicitDefEqProofs (disch := omega) only [wx_uk, wx_un, pk_us, pk_un]
    exact a5 i k hi hk
set_option maxHeartbeats 1000000 in
theorem wh_h9 (x : Int32) : -9 ≤ (wh_h x (-nI 9) (nI 9)).toInt ∧ (wh_h x (-nI 9) (nI 9)).toInt ≤ 9 := by
  have e1 : (-nI 9).toInt = -9 := wx_neg_toInt (b := 9) (by omega)
  have e2 : (nI 9).toInt = 9 := nI_toInt (n := 9) (by omega)
  unfold wh_h
  split
  · next c =>
    rw [Int32.le_iff_toInt_le, e1] at c
    split
    · next c2 => rw [Int32.le_iff_toInt_le, e2] at c2; exact ⟨c, c2⟩
    · rw [e2]; omega
  · rw [e1]; omega
set_option maxHeartbeats 1000000 in
theorem wl_light_l {w : Nat} (hw : w < 8) (e7 : σ 7 w = nI 8) (hW : ∀ i, i < 8 → σ 10 (w * 8 + i) = τ 1 (75 + 24 * w + 3 * i + 2)) : ∀ d i n m x, i + d = 8 → x < 8 → d < n → d < m → ∃ r, r < 8 ∧ f_X9_lightestRule_4 n 2 (nI w) (nI x) (nI i) σ = some (nI r, σ) ∧ f_X12_lightest_4 m 0 (nI w) (nI x) (nI i) τ = some (nI r, τ) := by
  intro d
  induction d with
  | zero =>
    intro i n m x hi hx hn hm
    obtain ⟨n, rfl⟩ : ∃ k, n = k + 1 := ⟨n - 1, by omega⟩
    obtain ⟨m, rfl⟩ : ∃ k, m = k + 1 := ⟨m - 1, by omega⟩
    refine ⟨x, hx, ?_, ?_⟩
    · simp -implicitDefEqProofs (disch := omega) only [e_X9_lightestRule_4, e_X9_lightestRule_4__1, e_X9_lightestRule_4__2, e_X9_lightestRule_4__3, e7, wx_bd, wx_let, wx_st, wx_lit, wx_ga, wx_sa, pk_mul, nI_add, wx_le, wx_lt, wx_eq, wx_en, wx_ne', wx_nn, wx_ltn, wx_len, wx_nlt, wx_nle, wx_bz0, wx_bz1, if_pos, if_neg, wx_ite, Nat.reduceEqDiff, eq_self, if_true, if_false, not_true_eq_false, not_false_eq_true]
    · simp -implicitDefEqProofs (disch := omega) only [e_X12_lightest_4, e_X12_lightest_4__1, e_X12_lightest_4__2, e_X12_lightest_4__3, e_X12_lightest_4__4, wx_bd, wx_let, wx_st, wx_lit, wx_ga, wx_sa, pk_mul, nI_add, wx_le, wx_lt, wx_eq, wx_en, wx_ne', wx_nn, wx_ltn, wx_len, wx_nlt, wx_nle, wx_bz0, wx_bz1, if_pos, if_neg, wx_ite, Nat.reduceEqDiff, eq_self, if_true, if_false, not_true_eq_false, not_false_eq_true]
  | succ d ih =>
    intro i n m x hi hx hn hm
    obtain ⟨n, rfl⟩ : ∃ k, n = k + 1 := ⟨n - 1, by omega⟩
    obtain ⟨m, rfl⟩ : ∃ k, m = k + 1 := ⟨m - 1, by omega⟩
    have g1 := hW i (by omega)
    have g2 := hW x hx
    by_cases c : τ 1 (75 + 24 * w + 3 * x + 2) ≤ τ 1 (75 + 24 * w + 3 * i + 2)
    · obtain ⟨r, r0, r1, r2⟩ := ih (i + 1) n m x (by omega) hx (by omega) (by omega)
      refine ⟨r, r0, ?_, ?_⟩
      · simp -implicitDefEqProofs (disch := omega) only [e_X9_lightestRule_4, e_X9_lightestRule_4__1, e_X9_lightestRule_4__2, e_X9_lightestRule_4__3, e_X9_lightestRule_41, e_X9_lightestRule_41__1, e7, g1, g2, c, wx_bd, wx_let, wx_st, wx_lit, wx_ga, wx_sa, pk_mul, nI_add, wx_le, wx_lt, wx_eq, wx_en, wx_ne', wx_nn, wx_ltn, wx_len, wx_nlt, wx_nle, wx_bz0, wx_bz1, if_pos, if_neg, wx_ite, Nat.reduceEqDiff, eq_self, if_true, if_false, not_true_eq_false, not_false_eq_true]; exact r1
      · simp -implicitDefEqProofs (disch := omega) only [e_X12_lightest_4, e_X12_lightest_4__1, e_X12_lightest_4__2, e_X12_lightest_4__3, e_X12_lightest_4__4, e_X12_lightest_41, e_X12_lightest_41__1, e_X12_ruleAt, c, wx_bd, wx_let, wx_st, wx_lit, wx_ga, wx_sa, pk_mul, nI_add, wx_le, wx_lt, wx_eq, wx_en, wx_ne', wx_nn, wx_ltn, wx_len, wx_nlt, wx_nle, wx_bz0, wx_bz1, if_pos, if_neg, wx_ite, Nat.reduceEqDiff, eq_self, if_true, if_false, not_true_eq_false, not_false_eq_true]; exact r2
    · obtain ⟨r, r0, r1, r2⟩ := ih (i + 1) n m i (by omega) (by omega) (by omega) (by omega)
      refine ⟨r, r0, ?_, ?_⟩
      · simp -implicitDefEqProofs (disch := omega) only [e_X9_lightestRule_4, e_X9_lightestRule_4__1, e_X9_lightestRule_4__2, e_X9_lightestRule_4__3, e_X9_lightestRule_41, e_X9_lightestRule_41__1, e7, g1, g2, c, wx_bd, wx_let, wx_st, wx_lit, wx_ga, wx_sa, pk_mul, nI_add, wx_le, wx_lt, wx_eq, wx_en, wx_ne', wx_nn, wx_ltn, wx_len, wx_nlt, wx_nle, wx_bz0, wx_bz1, if_pos, if_neg, wx_ite, Nat.reduceEqDiff, eq_self, if_true, if_false, not_true_eq_false, not_false_eq_true]; exact r1
      · simp -implicitDefEqProofs (disch := omega) only [e_X12_lightest_4, e_X12_lightest_4__1, e_X12_lightest_4__2, e_X12_lightest_4__3, e_X12_lightest_4__4, e_X12_lightest_41, e_X12_lightest_41__1, e_X12_ruleAt, c, wx_bd, wx_let, wx_st, wx_lit, wx_ga, wx_sa, pk_mul, nI_add, wx_le, wx_lt, wx_eq, wx_en, wx_ne', wx_nn, wx_ltn, wx_len, wx_nlt, wx_nle, wx_bz0, wx_bz1, if_pos, if_neg, wx_ite, Nat.reduceEqDiff, eq_self, if_true, if_false, not_true_eq_false, not_false_eq_true]; exact r2
set_option maxHeartbeats 1000000 in
theorem wl_light {w : Nat} (hw : w < 8) (e7 : σ 7 w = nI 8) (hW : ∀ i, i < 8 → σ 10 (w * 8 + i) = τ 1 (75 + 24 * w + 3 * i + 2)) : ∃ r, r < 8 ∧ f_X9_lightestRule 2 (nI w) σ = some (nI r, σ) ∧ f_X12_lightest 0 (nI w) τ = some (nI r, τ) :=
  wl_light_l hw e7 hW 7 1 wg_N wg_N 0 (by omega) (by omega) (by rw [wx_N]; omega) (by rw [wx_N]; omega)
set_option maxHeartbeats 1000000 in
theorem wl_cs (h : wB nw nj nc σ 1 (τ 1) τ) {w k : Nat} (hw : w < nw) (hk : τ 1 (67 + w) = nI k) (hk8 : k ≤ 8) : ∀ i, i < k → ∃ c, c < 8 ∧ σ 8 (w * 8 + i) = nI c := fun i hi => by
  obtain ⟨u1, -, -, ⟨c, c1, c2⟩, -⟩ := wb_ru h hw hk hk8 hi
  exact ⟨c, c1, u1.trans c2⟩
set_option maxHeartbeats 1000000 in
theorem wl_try (h : wX th nw nj nc σ τ) {c j : Nat} (hc : c < nc) (hj : j < nj) : ∃ v σ' τ', f_X1_tryCase 279 (nI c) (nI j) σ = some (nI 0, σ') ∧ f_X12_judgesCase 0 (nI c) (nI j) τ = some (v, τ') ∧ σ' 19 c = v ∧ wX th nw nj nc σ' τ' ∧ wFr σ σ' τ τ' := by
  have hd20 : ¬ nI 20 = nI 0 := by decide
  have h99 : -nI 9 ≤ nI 9 := by decide
  obtain ⟨n, s1, t1, b1, b2, b3, b4, b5⟩ := wl_verdict h.2.1 h.1 h.2.2.2.1.1 hj hc
  obtain ⟨X1, F1⟩ := wX_s h b4 b5
  obtain ⟨X2, F2⟩ := wl_setC (j := j) X1 hc b1
  have ev : nI n - nI 999 + nI 1000 = nI (n + 1) := by
    apply Int32.toInt_inj.mp
    rw [fb_addI (by rw [pk_sub_toInt (by omega) (by omega), nI_toInt (by omega)]; omega) (by rw [pk_sub_toInt (by omega) (by omega), nI_toInt (by omega)]; omega), pk_sub_toInt (by omega) (by omega), nI_toInt (by omega), nI_toInt (by omega)]
    omega
  obtain ⟨s2, hs2⟩ : ∃ s2, s2 = wg_u (wg_u s1 19 c (nI n - nI 999)) 20 c (nI j) := ⟨_, rfl⟩
  obtain ⟨t2, ht2⟩ : ∃ t2, t2 = wg_u (wg_u t1 1 (267 + c) (nI (n + 1))) 1 (281 + c) (nI (j + 1)) := ⟨_, rfl⟩
  rw [← hs2, ← ht2] at X2 F2
  obtain ⟨X3, F3⟩ := wl_setJ (c := 16) (o := 33) (v := t2 1 (33 + j) + nI 1) X2 hj (Or.inr (Or.inr ⟨rfl, rfl⟩))
  have e16 := wb_tried X2.2.1 hj
  have e14 := wb_worn X3.2.1 hj
  have S2 := wb_nw X3.2.1
  obtain ⟨n1, n2, n3, n4, n5, n6⟩ := id X3.1
  have wt1 : t1 1 (13 + j) = wg_u t2 1 (33 + j) (t2 1 (33 + j) + nI 1) 1 (13 + j) := by
    rw [ht2]; simp -implicitDefEqProofs (disch := omega) only [wx_uk, wx_un, pk_us, pk_un]
  obtain ⟨s3, hs3⟩ : ∃ s3, s3 = wg_u s2 16 j (t2 1 (33 + j) + nI 1) := ⟨_, rfl⟩
  obtain ⟨t3, ht3⟩ : ∃ t3, t3 = wg_u t2 1 (33 + j) (t2 1 (33 + j) + nI 1) := ⟨_, rfl⟩
  rw [← hs3, ← ht3] at X3 F3
  rw [← hs3] at e14 S2
  rw [← ht3] at e14 wt1 n4 n5 n6
  have F03 := wFr_tr F1 (wFr_tr F2 F3)
  obtain ⟨l, l1, l2⟩ := X3.2.1.1.2.2.2.2.2.2
  have e9 := wb_lines X3.2.1
  rw [l2] at e9
  -- the note, told first
  obtain ⟨X4, F4⟩ := wl_noteB (a := nI 0) (b := nI c) (c := nI n - nI 999) X3 l2 l1
  have nM := wl_noteM (a := nI 0) (b := nI c) (c := nI n - nI 999) X3.2.2.2.2 l2 l1
  obtain ⟨L, hL⟩ : ∃ L : wg_M → wg_M, L = wnC th l (s3 1 7) (nI 0) (nI c) (nI n - nI 999) := ⟨_, rfl⟩
  have LL : wLL L := by rw [hL]; exact wLL_n _ _ _ _ _ _
  obtain ⟨t4, ht4⟩ : ∃ t4, t4 = wnM th l (t3 1 0) (nI 0) (nI c) (nI n - nI 999) t3 := ⟨_, rfl⟩
  rw [← hL, ← ht4] at X4 F4
  rw [← ht4] at nM
  have note : ∀ s, wTh th s τ → s 1 = s3 1 → f_X1_note 279 (nI 0) (nI c) (nI n - nI 999) s = some (nI 0, L s) := fun s hth h1 => by
    have := wl_noteC (σ := s) (a := nI 0) (b := nI c) (c := nI n - nI 999) hth (by rw [h1]; exact e9) l1
    rw [this, h1, hL]
  have T3 : ∀ s, wGc s3 s → wTh th s τ := fun s g => ⟨by rw [g 279 (by omega)]; exact X3.2.2.2.2.1, h.2.2.2.2.2⟩
  have v19 : ∀ s, wGc s3 s → L s 19 c = nI n - nI 999 := fun s g => by
    rw [hL, wnC_un (by omega), g 19 (by omega), hs3, hs2]
    simp -implicitDefEqProofs (disch := omega) only [wx_uk, wx_un, pk_us, pk_un]
  have hm : f_X12_judgesCase 0 (nI c) (nI j) τ = q_X12_judgesCase__7 (nI c) (nI n - nI 999) (t1 1 (13 + j) - nI 1) (nI 0) t4 := by
    rw [ht3, ht2] at nM
    simp -implicitDefEqProofs (disch := omega) only [e_X12_judgesCase, e_X12_judgesCase__1, e_X12_judgesCase__2, e_X12_judgesCase__3, e_X12_judgesCase__4, e_X12_judgesCase__5, e_X12_judgesCase__6, e_X12_wigOf, e_X12_wigOf__1, b3, ev, nM, wx_bd, wx_let, wx_st, wx_lit, wx_ga, wx_sa, pk_mul, nI_add, wx_le, wx_lt, wx_eq, wx_en, wx_ne', wx_nn, wx_ltn, wx_len, wx_nlt, wx_nle, wx_bz0, wx_bz1, if_pos, if_neg, wx_ite, Nat.reduceEqDiff, eq_self, if_true, if_false, not_true_eq_false, not_false_eq_true]
  have e16' : s2 16 j = t2 1 (33 + j) := e16
  have hcl : f_X1_tryCase 279 (nI c) (nI j) σ = q_X1_tryCase__6 (nI c) (nI n - nI 999) s3 (s3 14 j) := by
    rw [hs3]
    simp -implicitDefEqProofs (disch := omega) only [e_X1_tryCase, e_X1_tryCase__1, e_X1_tryCase__2, e_X1_tryCase__3, e_X1_tryCase__4, e_X1_tryCase__5, b2, ← hs2, e16', wx_bd, wx_let, wx_st, wx_lit, wx_ga, wx_sa, pk_mul, nI_add, wx_le, wx_lt, wx_eq, wx_en, wx_ne', wx_nn, wx_ltn, wx_len, wx_nlt, wx_nle, wx_bz0, wx_bz1, if_pos, if_neg, wx_ite, Nat.reduceEqDiff, eq_self, if_true, if_false, not_true_eq_false, not_false_eq_true]
  rcases wb_wornc X3.2.1 hj with cw | ⟨w, hw, cw⟩
  · rw [cw, wx_m1] at e14
    rw [← wt1] at cw
    refine ⟨nI n - nI 999, L s3, t4, ?_, ?_, v19 s3 (wGc_rfl _), X4, wFr_tr F03 F4⟩
    · rw [hcl, e14]
      have nt := note s3 (T3 s3 (wGc_rfl _)) rfl
      simp -implicitDefEqProofs (disch := omega) only [e_X1_tryCase, e_X1_tryCase__1, e_X1_tryCase__2, e_X1_tryCase__3, e_X1_tryCase__4, e_X1_tryCase__5, e_X1_tryCase__6, e_X1_tryCase__7, e_X1_tryCase__8, e_X1_tryCase__9, e_X1_tryCase__10, e_X1_tryCase_129, e_X1_tryCase_129__1, e_X9_has, S2, nt, wx_bd, wx_let, wx_st, wx_lit, wx_ga, wx_sa, pk_mul, nI_add, wx_le, wx_lt, wx_eq, wx_en, wx_ne', wx_nn, wx_ltn, wx_len, wx_nlt, wx_nle, wx_bz0, wx_bz1, if_pos, if_neg, wx_ite, Nat.reduceEqDiff, eq_self, if_true, if_false, not_true_eq_false, not_false_eq_true]
    · rw [hm, cw, wx_m1]
      simp -implicitDefEqProofs (disch := omega) only [e_X12_judgesCase, e_X12_judgesCase__1, e_X12_judgesCase__2, e_X12_judgesCase__3, e_X12_judgesCase__4, e_X12_judgesCase__5, e_X12_judgesCase__6, e_X12_judgesCase__7, e_X12_judgesCase__8, e_X12_judgesCase__9, e_X12_judgesCase__10, wx_bd, wx_let, wx_st, wx_lit, wx_ga, wx_sa, pk_mul, nI_add, wx_le, wx_lt, wx_eq, wx_en, wx_ne', wx_nn, wx_ltn, wx_len, wx_nlt, wx_nle, wx_bz0, wx_bz1, if_pos, if_neg, wx_ite, Nat.reduceEqDiff, eq_self, if_true, if_false, not_true_eq_false, not_false_eq_true]
  · rw [cw, wx_sub1] at e14
    rw [← wt1] at cw
    obtain ⟨k, k8, hk, -⟩ := wb_k X3.2.1 hw
    have s7 := wb_rules X3.2.1 hw
    rw [hk] at s7
    have hk4 : t4 1 (67 + w) = nI k := by rw [ht4, wnM_1 (by omega)]; exact hk
    obtain ⟨g, g8, gc⟩ := (X3.2.1.2.2.2.1 c hc).2.2.2.2
    have s17 := wb_ccause X3.2.1 hc
    rw [gc] at s17
    have t46 : t4 6 c = nI g := by rw [ht4, wnM_un (by omega) (by omega)]; exact gc
    have fd := wh_fd20 n b1
    have hv9 := wh_h9 (wh_p (nI n - nI 999) (nI 20))
    have L17 : L s3 17 = s3 17 := by rw [hL]; exact wnC_un (by omega)
    rcases (show k < 8 ∨ k = 8 by omega) with ck | ck
    · obtain ⟨sa, ta, p1, -, -, p4, -, -⟩ := wl_addRule (c := g) (g := 9) (v := wh_h (wh_p (nI n - nI 999) (nI 20)) (-nI 9) (nI 9)) X3.2.1 X3.1 hw hk ck g8 hv9 (by omega)
      obtain ⟨sb, tb, q1, q2, q3, q4, q5, -⟩ := wl_addRule (c := g) (g := 9) (v := wh_h (wh_p (nI n - nI 999) (nI 20)) (-nI 9) (nI 9)) X4.2.1 X4.1 hw hk4 ck g8 hv9 (by omega)
      have pL := wl_add_L LL (by omega) s7 ck g8 (wl_cs X3.2.1 hw hk k8) p1
      rw [q1] at pL
      simp only [Option.some.injEq, Prod.mk.injEq, true_and] at pL
      obtain ⟨X5, F5⟩ := wX_g X4 q4 q5 q3
      refine ⟨nI n - nI 999, sb, tb, ?_, ?_, by rw [pL]; exact v19 sa p4, X5, wFr_tr F03 (wFr_tr F4 F5)⟩
      · rw [hcl, e14]
        have nt := note sa (T3 sa p4) (p4 1 (by omega))
        rw [← pL] at nt
        simp -implicitDefEqProofs (disch := omega) only [e_X1_tryCase, e_X1_tryCase__1, e_X1_tryCase__2, e_X1_tryCase__3, e_X1_tryCase__4, e_X1_tryCase__5, e_X1_tryCase__6, e_X1_tryCase__7, e_X1_tryCase__8, e_X1_tryCase__9, e_X1_tryCase__10, e_X1_tryCase_96, e_X1_tryCase_96__1, e_X1_tryCase_96__2, e_X1_tryCase_96__3, e_X1_tryCase_96__4, e_X1_tryCase_129, e_X1_tryCase_129__1, e_X9_has, S2, s7, s17, wh_qC hd20, fd, wh_hC h99, p1, nt, wx_bd, wx_let, wx_st, wx_lit, wx_ga, wx_sa, pk_mul, nI_add, wx_le, wx_lt, wx_eq, wx_en, wx_ne', wx_nn, wx_ltn, wx_len, wx_nlt, wx_nle, wx_bz0, wx_bz1, if_pos, if_neg, wx_ite, Nat.reduceEqDiff, eq_self, if_true, if_false, not_true_eq_false, not_false_eq_true]
      · rw [hm, cw, wx_sub1]
        simp -implicitDefEqProofs (disch := omega) only [e_X12_judgesCase, e_X12_judgesCase__1, e_X12_judgesCase__2, e_X12_judgesCase__3, e_X12_judgesCase__4, e_X12_judgesCase__5, e_X12_judgesCase__6, e_X12_judgesCase__7, e_X12_judgesCase__8, e_X12_judgesCase__9, e_X12_judgesCase__10, e_X12_judgesCase_104, e_X12_judgesCase_104__1, e_X12_judgesCase_104__2, e_X12_judgesCase_104__3, e_X12_judgesCase_104__4, hk4, t46, wh_pM hd20, wh_hM, q2, wx_bd, wx_let, wx_st, wx_lit, wx_ga, wx_sa, pk_mul, nI_add, wx_le, wx_lt, wx_eq, wx_en, wx_ne', wx_nn, wx_ltn, wx_len, wx_nlt, wx_nle, wx_bz0, wx_bz1, if_pos, if_neg, wx_ite, Nat.reduceEqDiff, eq_self, if_true, if_false, not_true_eq_false, not_false_eq_true]
    · subst ck
      obtain ⟨r, r0, r1, r2⟩ := wl_light (σ := s3) (τ := t4) (w := w) (by omega) s7 (fun i hi => by
        rw [ht4, wnM_1 (by omega)]
        exact wb_weight X3.2.1 hw hk (by omega) hi)
      obtain ⟨sd, td1, td2, V1, d1, -, -, -, d5, d6, d7, d8⟩ := wl_drop X3.2.1 X3.1 hw hk (by omega) r0
      obtain ⟨se, te1, te2, V, e1, e2, e3, e4, e5, e6, e7, e8⟩ := wl_drop X4.2.1 X4.1 hw hk4 (by omega) r0
      have dL := wl_drop_L LL (by omega) s7 (by omega) r0 (wl_cs X3.2.1 hw hk (by omega)) d1
      rw [e1] at dL
      simp only [Option.some.injEq, Prod.mk.injEq, true_and] at dL
      obtain ⟨Xd, Fd⟩ := wX_g X3 d6 d7 d5
      obtain ⟨Xe, Fe⟩ := wX_g X4 e6 e7 e5
      have sd7 := wb_rules Xd.2.1 hw
      rw [d8] at sd7
      have sd17 : sd 17 c = nI g := by rw [d6 17 (by omega)]; exact s17
      obtain ⟨sa, ta, p1, -, -, p4, -, -⟩ := wl_addRule (c := g) (g := 9) (v := wh_h (wh_p (nI n - nI 999) (nI 20)) (-nI 9) (nI 9)) Xd.2.1 Xd.1 hw d8 (by omega) g8 hv9 (by omega)
      obtain ⟨sb, tb, q1, q2, q3, q4, q5, -⟩ := wl_addRule (c := g) (g := 9) (v := wh_h (wh_p (nI n - nI 999) (nI 20)) (-nI 9) (nI 9)) Xe.2.1 Xe.1 hw e8 (by omega) g8 hv9 (by omega)
      have pL := wl_add_L LL (by omega) sd7 (by omega) g8 (wl_cs Xd.2.1 hw d8 (by omega)) p1
      rw [← dL, q1] at pL
      simp only [Option.some.injEq, Prod.mk.injEq, true_and] at pL
      obtain ⟨X5, F5⟩ := wX_g Xe q4 q5 q3
      have ga := wGc_tr d6 p4
      have te16 : te1 6 c = nI g := by
        have : te2 6 = t4 6 := e7.1 6 (by omega)
        rw [e4, wx_un (by omega)] at this
        rw [this]; exact t46
      have te7 : te1 1 (67 + w) = nI 7 := by
        rw [e4] at e8
        simp -implicitDefEqProofs (disch := omega) only [wx_uk, wx_un, pk_us, pk_un] at e8
        exact e8
      have q2' : f_X12_comesRule 0 (nI w) (nI g) (wh_h (wh_p (nI n - nI 999) (nI 20)) (-nI 9) (nI 9)) (nI 9) te1 = some (nI 0, tb) := by
        rw [e4, wl_comes_itch (k := 7) (by omega) te7 (by omega)] at q2
        exact q2
      refine ⟨nI n - nI 999, sb, tb, ?_, ?_, by rw [pL]; exact v19 sa ga, X5, wFr_tr F03 (wFr_tr F4 (wFr_tr Fe F5))⟩
      · rw [hcl, e14]
        have nt := note sa (T3 sa ga) (ga 1 (by omega))
        rw [← pL] at nt
        simp -implicitDefEqProofs (disch := omega) only [e_X1_tryCase, e_X1_tryCase__1, e_X1_tryCase__2, e_X1_tryCase__3, e_X1_tryCase__4, e_X1_tryCase__5, e_X1_tryCase__6, e_X1_tryCase__7, e_X1_tryCase__8, e_X1_tryCase__9, e_X1_tryCase__10, e_X1_tryCase_96, e_X1_tryCase_96__1, e_X1_tryCase_96__2, e_X1_tryCase_96__3, e_X1_tryCase_96__4, e_X1_tryCase_129, e_X1_tryCase_129__1, e_X9_has, S2, s7, r1, d1, sd17, wh_qC hd20, fd, wh_hC h99, p1, nt, wx_bd, wx_let, wx_st, wx_lit, wx_ga, wx_sa, pk_mul, nI_add, wx_le, wx_lt, wx_eq, wx_en, wx_ne', wx_nn, wx_ltn, wx_len, wx_nlt, wx_nle, wx_bz0, wx_bz1, if_pos, if_neg, wx_ite, Nat.reduceEqDiff, eq_self, if_true, if_false, not_true_eq_false, not_false_eq_true]
      · rw [hm, cw, wx_sub1]
        simp -implicitDefEqProofs (disch := omega) only [e_X12_judgesCase, e_X12_judgesCase__1, e_X12_judgesCase__2, e_X12_judgesCase__3, e_X12_judgesCase__4, e_X12_judgesCase__5, e_X12_judgesCase__6, e_X12_judgesCase__7, e_X12_judgesCase__8, e_X12_judgesCase__9, e_X12_judgesCase__10, e_X12_judgesCase_104, e_X12_judgesCase_104__1, e_X12_judgesCase_104__2, e_X12_judgesCase_104__3, e_X12_judgesCase_104__4, hk4, r2, e2, te16, wh_pM hd20, wh_hM, q2', wx_bd, wx_let, wx_st, wx_lit, wx_ga, wx_sa, pk_mul, nI_add, wx_le, wx_lt, wx_eq, wx_en, wx_ne', wx_nn, wx_ltn, wx_len, wx_nlt, wx_nle, wx_bz0, wx_bz1, if_pos, if_neg, wx_ite, Nat.reduceEqDiff, eq_self, if_true, if_false, not_true_eq_false, not_false_eq_true]
end YR

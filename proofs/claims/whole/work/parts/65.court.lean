/-! counts, moth, dies, verdict: both sides -/
def wSc (σ σ' : wg_M) : Prop := ∀ a, a ≠ 32 → a ≠ 33 → σ' a = σ a
def wSm (τ τ' : wg_M) : Prop := ∀ a, a ≠ 22 → a ≠ 23 → τ' a = τ a
set_option maxHeartbeats 1000000 in
theorem wSc_rfl (σ : wg_M) : wSc σ σ := fun _ _ _ => rfl
set_option maxHeartbeats 1000000 in
theorem wSm_rfl (τ : wg_M) : wSm τ τ := fun _ _ _ => rfl
set_option maxHeartbeats 1000000 in
theorem wSc_tr {a b c : wg_M} (h1 : wSc a b) (h2 : wSc b c) : wSc a c := fun q p1 p2 => (h2 q p1 p2).trans (h1 q p1 p2)
set_option maxHeartbeats 1000000 in
theorem wSm_tr {a b c : wg_M} (h1 : wSm a b) (h2 : wSm b c) : wSm a c := fun q p1 p2 => (h2 q p1 p2).trans (h1 q p1 p2)
set_option maxHeartbeats 1000000 in
theorem wB_s {nw nj nc : Nat} {σ σ' τ τ' : wg_M} (hn : nw ≤ 8 ∧ nj ≤ 10 ∧ nc ≤ 14) (h1 : wSc σ σ') (h2 : wSm τ τ') (h : wB nw nj nc σ 1 (τ 1) τ) : wB nw nj nc σ' 1 (τ' 1) τ' :=
  wB_fr hn (fun a q1 q2 => h1 a (by omega) (by omega)) (fun i _ => by rw [h2 1 (by omega) (by omega)]) (fun i _ => by rw [h2 4 (by omega) (by omega)]) (fun i _ => by rw [h2 5 (by omega) (by omega)]) (fun i _ => by rw [h2 6 (by omega) (by omega)]) (fun i _ => by rw [h2 7 (by omega) (by omega)]) h
set_option maxHeartbeats 1000000 in
theorem wN_s {nw nj nc : Nat} {τ τ' : wg_M} (h2 : wSm τ τ') (h : wN nw nj nc τ) : wN nw nj nc τ' := by
  have e := h2 0 (by omega) (by omega)
  exact wN_fr (by rw [e]) (by rw [e]) (by rw [e]) h
set_option maxHeartbeats 1000000 in
theorem wLw_s {σ σ' τ τ' : wg_M} (h1 : wSc σ σ') (h2 : wSm τ τ') (h : wLw σ 0 τ) : wLw σ' 0 τ' :=
  wLw_fr (fun a q1 q2 => h1 a (by omega) (by omega)) (fun a i _ q => by rw [h2 a (by omega) (by omega)]) h
set_option maxHeartbeats 1000000 in
theorem wl_fill_l (c : Nat) (hc : wg_n Sc c < 1000) (x : Int32) : ∀ d i n σ, i + d = wg_n Sc c → d < n → ∃ σ', f_J7_fill_53178_5 n c x (nI i) (nI (wg_n Sc c)) σ = some (nI 0, σ') ∧ (∀ a, a ≠ c → σ' a = σ a) ∧ (∀ j, i ≤ j → j < wg_n Sc c → σ' c j = x) ∧ ∀ j, j < i → σ' c j = σ c j := by
  intro d
  induction d with
  | zero =>
    intro i n σ hi hn
    obtain ⟨n, rfl⟩ : ∃ k, n = k + 1 := ⟨n - 1, by omega⟩
    refine ⟨σ, ?_, fun _ _ => rfl, fun j q1 q2 => by omega, fun _ _ => rfl⟩
    rw [f_J7_fill_53178_5]
    simp -implicitDefEqProofs (disch := omega) only [wx_bd, wx_let, wx_st, wx_lit, wx_ga, wx_sa, pk_mul, nI_add, wx_le, wx_lt, wx_eq, wx_en, wx_ne', wx_nn, wx_ltn, wx_len, wx_nlt, wx_nle, wx_bz0, wx_bz1, if_pos, if_neg, wx_ite, Nat.reduceEqDiff, eq_self, if_true, if_false, not_true_eq_false, not_false_eq_true]
  | succ d ih =>
    intro i n σ hi hn
    obtain ⟨n, rfl⟩ : ∃ k, n = k + 1 := ⟨n - 1, by omega⟩
    obtain ⟨σ', r1, r2, r3, r4⟩ := ih (i + 1) n (wg_u σ c i x) (by omega) (by omega)
    refine ⟨σ', ?_, fun a ha => (r2 a ha).trans (wx_un ha), fun j q1 q2 => ?_, fun j q => ?_⟩
    · rw [f_J7_fill_53178_5]
      simp -implicitDefEqProofs (disch := omega) only [wx_bd, wx_let, wx_st, wx_lit, wx_ga, wx_sa, pk_mul, nI_add, wx_le, wx_lt, wx_eq, wx_en, wx_ne', wx_nn, wx_ltn, wx_len, wx_nlt, wx_nle, wx_bz0, wx_bz1, if_pos, if_neg, wx_ite, Nat.reduceEqDiff, eq_self, if_true, if_false, not_true_eq_false, not_false_eq_true]
      exact r1
    · rcases Nat.lt_or_ge i j with q | q
      · exact r3 j (by omega) q2
      · rw [show j = i by omega, r4 i (by omega), wx_uk, pk_us]
    · rw [r4 j (by omega), wx_uk, pk_un (by omega)]
set_option maxHeartbeats 1000000 in
theorem wl_fill (c : Nat) (hc : wg_n Sc c < 1000) (x : Int32) (σ : wg_M) : ∃ σ', f_J7_fill_53178 c x σ = some (nI 0, σ') ∧ (∀ a, a ≠ c → σ' a = σ a) ∧ ∀ j, j < wg_n Sc c → σ' c j = x := by
  obtain ⟨σ', r1, r2, r3, -⟩ := wl_fill_l c hc x (wg_n Sc c) 0 wg_N σ (by omega) (by rw [wx_N]; omega)
  refine ⟨σ', ?_, r2, fun j hj => r3 j (by omega) hj⟩
  simp -implicitDefEqProofs only [f_J7_fill_53178, wx_let, wx_lit, wx_ofN]
  exact r1
set_option maxHeartbeats 1000000 in
theorem wl_askN (σ : wg_M) : ∃ σ1, (∀ a, a ≠ 32 → σ1 a = σ a) ∧ (∀ j, j < 10 → σ1 32 j = nI 0) ∧ f_X1_askNobody 279 σ = some (nI 0, wg_u σ1 32 9 (σ 1 7)) := by
  obtain ⟨σ1, r1, r2, r3⟩ := wl_fill 32 (by rw [sc_n32]; omega) (nI 0) σ
  rw [sc_n32] at r3
  refine ⟨σ1, r2, r3, ?_⟩
  have e := r2 1 (by omega)
  simp -implicitDefEqProofs (disch := omega) only [e_X1_askNobody, e_X1_askNobody__1, e_X1_askNobody__2, r1, e, wx_bd, wx_let, wx_st, wx_lit, wx_ga, wx_sa, pk_mul, nI_add, wx_le, wx_lt, wx_eq, wx_en, wx_ne', wx_nn, wx_ltn, wx_len, wx_nlt, wx_nle, wx_bz0, wx_bz1, if_pos, if_neg, wx_ite, Nat.reduceEqDiff, eq_self, if_true, if_false, not_true_eq_false, not_false_eq_true]
set_option maxHeartbeats 1000000 in
theorem wl_askJ {j : Nat} (hj : j < 10) (σ : wg_M) : f_X1_askJudge 279 (nI j) σ = some (nI 0, wg_u (wg_u (wg_u σ 32 0 (σ 12 j)) 32 1 (σ 13 j)) 32 8 (σ 16 j)) := by
  simp -implicitDefEqProofs (disch := omega) only [e_X1_askJudge, e_X1_askJudge__1, e_X1_askJudge__2, e_X1_askJudge__3, e_X1_askJudge__4, e_X1_askJudge__5, e_X1_askJudge__6, wx_un, wx_bd, wx_let, wx_st, wx_lit, wx_ga, wx_sa, pk_mul, nI_add, wx_le, wx_lt, wx_eq, wx_en, wx_ne', wx_nn, wx_ltn, wx_len, wx_nlt, wx_nle, wx_bz0, wx_bz1, if_pos, if_neg, wx_ite, Nat.reduceEqDiff, eq_self, if_true, if_false, not_true_eq_false, not_false_eq_true]
set_option maxHeartbeats 1000000 in
theorem wl_askW {w : Nat} (hw : w < 8) (σ : wg_M) : f_X1_askWig 279 (nI w) σ = some (nI 0, wg_u (wg_u (wg_u (wg_u σ 32 2 (σ 3 w)) 32 3 (σ 4 w)) 32 4 (σ 5 w)) 32 5 (σ 6 w)) := by
  simp -implicitDefEqProofs (disch := omega) only [e_X1_askWig, e_X1_askWig__1, e_X1_askWig__2, e_X1_askWig__3, e_X1_askWig__4, e_X1_askWig__5, e_X1_askWig__6, e_X1_askWig__7, e_X1_askWig__8, wx_un, wx_bd, wx_let, wx_st, wx_lit, wx_ga, wx_sa, pk_mul, nI_add, wx_le, wx_lt, wx_eq, wx_en, wx_ne', wx_nn, wx_ltn, wx_len, wx_nlt, wx_nle, wx_bz0, wx_bz1, if_pos, if_neg, wx_ite, Nat.reduceEqDiff, eq_self, if_true, if_false, not_true_eq_false, not_false_eq_true]
def wl_T (τ : wg_M) (a0 a1 a2 a3 a4 a5 a8 : Int32) : wg_M := wg_u (wg_u (wg_u (wg_u (wg_u (wg_u (wg_u (wg_u (wg_u (wg_u τ 22 0 a0) 22 1 a1) 22 2 a2) 22 3 a3) 22 4 a4) 22 5 a5) 22 6 (nI 0)) 22 7 (nI 0)) 22 8 a8) 22 9 (τ 1 0)
set_option maxHeartbeats 1000000 in
theorem wl_asksJW {j w : Nat} (hj : j < 10) (hw : w < 8) (τ : wg_M) : f_X12_asks 0 (nI j) (nI w) τ = some (nI 0, wl_T τ (τ 1 (3 + j)) (τ 5 j) (τ 4 w) (τ 1 (43 + w)) (τ 1 (51 + w)) (τ 1 (59 + w)) (τ 1 (33 + j))) := by
  simp -implicitDefEqProofs (disch := omega) only [e_X12_asks_177, e_X12_asks_177__1, e_X12_asks_177__2, e_X12_asks_177__3, e_X12_asks_177__1, e_X12_asks_177__2, e_X12_asks_177__3, e_X12_asks_136, e_X12_asks_136__1, e_X12_asks_136__2, e_X12_asks_136__3, e_X12_asks_136__4, e_X12_asks_136__1, e_X12_asks_136__2, e_X12_asks_136__3, e_X12_asks_136__4, e_X12_asks_112, e_X12_asks_112__1, e_X12_asks_112__2, e_X12_asks_112__1, e_X12_asks_112__2, e_X12_asks_88, e_X12_asks_88__1, e_X12_asks_88__2, e_X12_asks_88__1, e_X12_asks_88__2, e_X12_asks_64, e_X12_asks_64__1, e_X12_asks_64__2, e_X12_asks_64__1, e_X12_asks_64__2, e_X12_asks_43, e_X12_asks_43__1, e_X12_asks_43__2, e_X12_asks_43__1, e_X12_asks_43__2, e_X12_asks_22, e_X12_asks_22__1, e_X12_asks_22__2, e_X12_asks_22__1, e_X12_asks_22__2, e_X12_asks, e_X12_asks__1, e_X12_asks__1, wx_un, sm_n22, wl_T, wx_bd, wx_let, wx_st, wx_lit, wx_ga, wx_sa, pk_mul, nI_add, wx_le, wx_lt, wx_eq, wx_en, wx_ne', wx_nn, wx_ltn, wx_len, wx_nlt, wx_nle, wx_bz0, wx_bz1, if_pos, if_neg, wx_ite, Nat.reduceEqDiff, eq_self, if_true, if_false, not_true_eq_false, not_false_eq_true]
set_option maxHeartbeats 1000000 in
theorem wl_asksW {w : Nat} (hw : w < 8) (τ : wg_M) : f_X12_asks 0 (-nI 1) (nI w) τ = some (nI 0, wl_T τ (nI 0) (nI 0) (τ 4 w) (τ 1 (43 + w)) (τ 1 (51 + w)) (τ 1 (59 + w)) (nI 0)) := by
  simp -implicitDefEqProofs (disch := omega) only [e_X12_asks_177, e_X12_asks_177__1, e_X12_asks_177__2, e_X12_asks_177__3, e_X12_asks_177__1, e_X12_asks_177__2, e_X12_asks_177__3, e_X12_asks_136, e_X12_asks_136__1, e_X12_asks_136__2, e_X12_asks_136__3, e_X12_asks_136__4, e_X12_asks_136__1, e_X12_asks_136__2, e_X12_asks_136__3, e_X12_asks_136__4, e_X12_asks_112, e_X12_asks_112__1, e_X12_asks_112__2, e_X12_asks_112__1, e_X12_asks_112__2, e_X12_asks_88, e_X12_asks_88__1, e_X12_asks_88__2, e_X12_asks_88__1, e_X12_asks_88__2, e_X12_asks_64, e_X12_asks_64__1, e_X12_asks_64__2, e_X12_asks_64__1, e_X12_asks_64__2, e_X12_asks_43, e_X12_asks_43__1, e_X12_asks_43__2, e_X12_asks_43__1, e_X12_asks_43__2, e_X12_asks_22, e_X12_asks_22__1, e_X12_asks_22__2, e_X12_asks_22__1, e_X12_asks_22__2, e_X12_asks, e_X12_asks__1, e_X12_asks__1, wx_un, sm_n22, wl_T, wx_bd, wx_let, wx_st, wx_lit, wx_ga, wx_sa, pk_mul, nI_add, wx_le, wx_lt, wx_eq, wx_en, wx_ne', wx_nn, wx_ltn, wx_len, wx_nlt, wx_nle, wx_bz0, wx_bz1, if_pos, if_neg, wx_ite, Nat.reduceEqDiff, eq_self, if_true, if_false, not_true_eq_false, not_false_eq_true]
set_option maxHeartbeats 1000000 in
theorem wl_asksJ {j : Nat} (hj : j < 10) (τ : wg_M) : f_X12_asks 0 (nI j) (-nI 1) τ = some (nI 0, wl_T τ (τ 1 (3 + j)) (τ 5 j) (nI 0) (nI 0) (nI 0) (nI 0) (τ 1 (33 + j))) := by
  simp -implicitDefEqProofs (disch := omega) only [e_X12_asks_177, e_X12_asks_177__1, e_X12_asks_177__2, e_X12_asks_177__3, e_X12_asks_177__1, e_X12_asks_177__2, e_X12_asks_177__3, e_X12_asks_136, e_X12_asks_136__1, e_X12_asks_136__2, e_X12_asks_136__3, e_X12_asks_136__4, e_X12_asks_136__1, e_X12_asks_136__2, e_X12_asks_136__3, e_X12_asks_136__4, e_X12_asks_112, e_X12_asks_112__1, e_X12_asks_112__2, e_X12_asks_112__1, e_X12_asks_112__2, e_X12_asks_88, e_X12_asks_88__1, e_X12_asks_88__2, e_X12_asks_88__1, e_X12_asks_88__2, e_X12_asks_64, e_X12_asks_64__1, e_X12_asks_64__2, e_X12_asks_64__1, e_X12_asks_64__2, e_X12_asks_43, e_X12_asks_43__1, e_X12_asks_43__2, e_X12_asks_43__1, e_X12_asks_43__2, e_X12_asks_22, e_X12_asks_22__1, e_X12_asks_22__2, e_X12_asks_22__1, e_X12_asks_22__2, e_X12_asks, e_X12_asks__1, e_X12_asks__1, wx_un, sm_n22, wl_T, wx_bd, wx_let, wx_st, wx_lit, wx_ga, wx_sa, pk_mul, nI_add, wx_le, wx_lt, wx_eq, wx_en, wx_ne', wx_nn, wx_ltn, wx_len, wx_nlt, wx_nle, wx_bz0, wx_bz1, if_pos, if_neg, wx_ite, Nat.reduceEqDiff, eq_self, if_true, if_false, not_true_eq_false, not_false_eq_true]
set_option maxHeartbeats 1000000 in
theorem wl_T_un {τ : wg_M} {a0 a1 a2 a3 a4 a5 a8 : Int32} {a : Nat} (h : a ≠ 22) : wl_T τ a0 a1 a2 a3 a4 a5 a8 a = τ a := by
  simp -implicitDefEqProofs (disch := omega) only [wl_T, wx_un]
section CO
variable {nw nj nc : Nat} {σ τ : wg_M}
set_option maxHeartbeats 1000000 in
theorem wl_counts (h : wB nw nj nc σ 1 (τ 1) τ) (hN : wN nw nj nc τ) (hL : wLw σ 0 τ) {w k i j : Nat} (hw : w < nw) (hk : τ 1 (67 + w) = nI k) (hk8 : k ≤ 8) (hi : i < k) (hj : j < nj) : ∃ g σ' τ', g ≤ 99 ∧ f_X1_countsOf 279 (nI w) (nI i) (nI j) σ = some (nI g, σ') ∧ f_X12_countsOf 0 (nI w) (nI i) (nI j) τ = some (nI g, τ') ∧ wSc σ σ' ∧ wSm τ τ' := by
  obtain ⟨n1, n2, n3, n4, n5, n6⟩ := hN
  obtain ⟨σ1, s1, s2, s3⟩ := wl_askN σ
  have e8 := wb_cause h hw hk hk8 hi
  have e10 := wb_weight h hw hk hk8 hi
  obtain ⟨S, hS⟩ : ∃ S, S = wg_u (wg_u (wg_u (wg_u (wg_u (wg_u (wg_u (wg_u (wg_u (wg_u σ1 32 9 (σ 1 7)) 32 0 (σ 12 j)) 32 1 (σ 13 j)) 32 8 (σ 16 j)) 32 2 (σ 3 w)) 32 3 (σ 4 w)) 32 4 (σ 5 w)) 32 5 (σ 6 w)) 32 6 (σ 8 (w * 8 + i))) 32 7 (σ 10 (w * 8 + i)) := ⟨_, rfl⟩
  obtain ⟨T, hT⟩ : ∃ T, T = wg_u (wg_u (wl_T τ (τ 1 (3 + j)) (τ 5 j) (τ 4 w) (τ 1 (43 + w)) (τ 1 (51 + w)) (τ 1 (59 + w)) (τ 1 (33 + j))) 22 6 (τ 1 (75 + 24 * w + 3 * i))) 22 7 (τ 1 (75 + 24 * w + 3 * i + 2)) := ⟨_, rfl⟩
  have fS : ∀ a, a ≠ 32 → S a = σ a := fun a ha => by
    rw [hS]; simp -implicitDefEqProofs (disch := omega) only [wx_un]; exact s1 a ha
  have fT : ∀ a, a ≠ 22 → T a = τ a := fun a ha => by
    rw [hT]; simp -implicitDefEqProofs (disch := omega) only [wx_un]; exact wl_T_un ha
  have hF : ∀ q, q < 10 → S 32 q = T 22 q := by
    intro q hq
    rw [hS, hT]
    rcases (show q = 0 ∨ q = 1 ∨ q = 2 ∨ q = 3 ∨ q = 4 ∨ q = 5 ∨ q = 6 ∨ q = 7 ∨ q = 8 ∨ q = 9 by omega) with rfl | rfl | rfl | rfl | rfl | rfl | rfl | rfl | rfl | rfl <;> simp -implicitDefEqProofs (disch := omega) only [wl_T, wx_uk, wx_un, pk_us, pk_un, wb_age h, wb_mind h, wb_tried h, wb_colour h, wb_hair h, wb_itch h, wb_lent h, wb_year h, e8, e10]
  have hL2 : wLw S 0 T := wLw_fr (fun a q1 q2 => fS a (by omega)) (fun a i _ q => by rw [fT a (by omega)]) hL
  obtain ⟨r, σ', τ', t1, t2, t3, t4⟩ := wl_tell hL2 hF 0 (by omega) (τ 1 (75 + 24 * w + 3 * i + 2)) (M := 99) (by omega)
  obtain ⟨g, g1, g2⟩ := wh_h_in (x := r) (M := 99) (by omega)
  refine ⟨g, σ', τ', g1, ?_, ?_, fun a h1 h2 => (t3 a h2).trans (fS a h1), fun a h1 h2 => (t4 a h2).trans (fT a h1)⟩
  · have hc : nI 0 ≤ nI 99 := by decide
    rw [hS] at t1
    simp only [Nat.add_zero] at t1
    simp -implicitDefEqProofs (disch := omega) only [e_X1_countsOf, e_X1_countsOf__1, e_X1_countsOf__2, e_X1_countsOf__3, e_X1_countsOf__4, e_X1_countsOf__5, e_X1_countsOf__6, e_X1_countsOf__7, e_X1_countsOf__8, e_X1_countsOf__9, e_X1_countsOf__10, e_X1_countsOf__11, s3, wl_askJ, wl_askW, wx_un, s1, wx_bd, wx_let, wx_st, wx_lit, wx_ga, wx_sa, pk_mul, nI_add, wx_le, wx_lt, wx_eq, wx_en, wx_ne', wx_nn, wx_ltn, wx_len, wx_nlt, wx_nle, wx_bz0, wx_bz1, if_pos, if_neg, wx_ite, Nat.reduceEqDiff, eq_self, if_true, if_false, not_true_eq_false, not_false_eq_true]
    rw [e10] at t1 ⊢
    simp -implicitDefEqProofs (disch := omega) only [e_X1_countsOf, e_X1_countsOf__1, e_X1_countsOf__2, e_X1_countsOf__3, e_X1_countsOf__4, e_X1_countsOf__5, e_X1_countsOf__6, e_X1_countsOf__7, e_X1_countsOf__8, e_X1_countsOf__9, e_X1_countsOf__10, e_X1_countsOf__11, t1, wh_hC hc, g2, wx_un, s1, e10, wx_bd, wx_let, wx_st, wx_lit, wx_ga, wx_sa, pk_mul, nI_add, wx_le, wx_lt, wx_eq, wx_en, wx_ne', wx_nn, wx_ltn, wx_len, wx_nlt, wx_nle, wx_bz0, wx_bz1, if_pos, if_neg, wx_ite, Nat.reduceEqDiff, eq_self, if_true, if_false, not_true_eq_false, not_false_eq_true]
  · rw [hT] at t2
    simp -implicitDefEqProofs (disch := omega) only [e_X12_countsOf, e_X12_countsOf__1, e_X12_countsOf__2, e_X12_countsOf__3, e_X12_countsOf__4, e_X12_countsOf__5, e_X12_countsOf__6, e_X12_countsOf__7, e_X12_countsOf__8, e_X12_countsOf__9, e_X12_ruleAt, wl_asksJW, wl_T_un, wx_un, wx_uk, pk_us, wx_bd, wx_let, wx_st, wx_lit, wx_ga, wx_sa, pk_mul, nI_add, wx_le, wx_lt, wx_eq, wx_en, wx_ne', wx_nn, wx_ltn, wx_len, wx_nlt, wx_nle, wx_bz0, wx_bz1, if_pos, if_neg, wx_ite, Nat.reduceEqDiff, eq_self, if_true, if_false, not_true_eq_false, not_false_eq_true]
    rw [g2] at t2
    simp -implicitDefEqProofs (disch := omega) only [e_X12_countsOf, e_X12_countsOf__1, e_X12_countsOf__2, e_X12_countsOf__3, e_X12_countsOf__4, e_X12_countsOf__5, e_X12_countsOf__6, e_X12_countsOf__7, e_X12_countsOf__8, e_X12_countsOf__9, t2, wx_bd, wx_let, wx_st, wx_lit, wx_ga, wx_sa, pk_mul, nI_add, wx_le, wx_lt, wx_eq, wx_en, wx_ne', wx_nn, wx_ltn, wx_len, wx_nlt, wx_nle, wx_bz0, wx_bz1, if_pos, if_neg, wx_ite, Nat.reduceEqDiff, eq_self, if_true, if_false, not_true_eq_false, not_false_eq_true]
set_option maxHeartbeats 1000000 in
theorem wl_moth (h : wB nw nj nc σ 1 (τ 1) τ) (hN : wN nw nj nc τ) (hL : wLw σ 0 τ) {w : Nat} (hw : w < nw) : ∃ g σ' τ', g ≤ 99 ∧ f_X1_mothOf 279 (nI w) σ = some (nI g, σ') ∧ f_X12_mothOf 0 (nI w) τ = some (nI g, τ') ∧ wSc σ σ' ∧ wSm τ τ' := by
  obtain ⟨n1, n2, n3, n4, n5, n6⟩ := hN
  obtain ⟨σ1, s1, s2, s3⟩ := wl_askN σ
  obtain ⟨S, hS⟩ : ∃ S, S = wg_u (wg_u (wg_u (wg_u (wg_u σ1 32 9 (σ 1 7)) 32 2 (σ 3 w)) 32 3 (σ 4 w)) 32 4 (σ 5 w)) 32 5 (σ 6 w) := ⟨_, rfl⟩
  obtain ⟨T, hT⟩ : ∃ T, T = wl_T τ (nI 0) (nI 0) (τ 4 w) (τ 1 (43 + w)) (τ 1 (51 + w)) (τ 1 (59 + w)) (nI 0) := ⟨_, rfl⟩
  have fS : ∀ a, a ≠ 32 → S a = σ a := fun a ha => by
    rw [hS]; simp -implicitDefEqProofs (disch := omega) only [wx_un]; exact s1 a ha
  have fT : ∀ a, a ≠ 22 → T a = τ a := fun a ha => by
    rw [hT]; exact wl_T_un ha
  have hF : ∀ q, q < 10 → S 32 q = T 22 q := by
    intro q hq
    rw [hS, hT]
    rcases (show q = 0 ∨ q = 1 ∨ q = 2 ∨ q = 3 ∨ q = 4 ∨ q = 5 ∨ q = 6 ∨ q = 7 ∨ q = 8 ∨ q = 9 by omega) with rfl | rfl | rfl | rfl | rfl | rfl | rfl | rfl | rfl | rfl <;> simp -implicitDefEqProofs (disch := omega) only [wl_T, wx_uk, wx_un, pk_us, pk_un, wb_colour h, wb_hair h, wb_itch h, wb_lent h, wb_year h, s2]
  have hL2 : wLw S 0 T := wLw_fr (fun a q1 q2 => fS a (by omega)) (fun a i _ q => by rw [fT a (by omega)]) hL
  obtain ⟨r, σ', τ', t1, t2, t3, t4⟩ := wl_tell hL2 hF 1 (by omega) (nI 1 + τ 1 (51 + w) / nI 9) (M := 99) (by omega)
  obtain ⟨g, g1, g2⟩ := wh_h_in (x := r) (M := 99) (by omega)
  refine ⟨g, σ', τ', g1, ?_, ?_, fun a h1 h2 => (t3 a h2).trans (fS a h1), fun a h1 h2 => (t4 a h2).trans (fT a h1)⟩
  · have hc : nI 0 ≤ nI 99 := by decide
    have e5 := wb_itch h hw
    rw [hS] at t1
    simp only [Nat.reduceAdd] at t1
    simp -implicitDefEqProofs (disch := omega) only [e_X1_mothOf, e_X1_mothOf__1, e_X1_mothOf__2, e_X1_mothOf__3, e_X1_mothOf__4, e_X1_mothOf__5, e_X1_mothOf__6, s3, wl_askW, wx_un, s1, wg_dv, wx_bd, wx_let, wx_st, wx_lit, wx_ga, wx_sa, pk_mul, nI_add, wx_le, wx_lt, wx_eq, wx_en, wx_ne', wx_nn, wx_ltn, wx_len, wx_nlt, wx_nle, wx_bz0, wx_bz1, if_pos, if_neg, wx_ite, Nat.reduceEqDiff, eq_self, if_true, if_false, not_true_eq_false, not_false_eq_true]
    rw [e5] at t1 ⊢
    simp -implicitDefEqProofs (disch := omega) only [e_X1_mothOf, e_X1_mothOf__1, e_X1_mothOf__2, e_X1_mothOf__3, e_X1_mothOf__4, e_X1_mothOf__5, e_X1_mothOf__6, t1, wh_hC hc, g2, wx_un, s1, wg_dv, e5, wx_bd, wx_let, wx_st, wx_lit, wx_ga, wx_sa, pk_mul, nI_add, wx_le, wx_lt, wx_eq, wx_en, wx_ne', wx_nn, wx_ltn, wx_len, wx_nlt, wx_nle, wx_bz0, wx_bz1, if_pos, if_neg, wx_ite, Nat.reduceEqDiff, eq_self, if_true, if_false, not_true_eq_false, not_false_eq_true]
  · rw [hT] at t2
    rw [g2] at t2
    simp -implicitDefEqProofs (disch := omega) only [e_X12_mothOf, e_X12_mothOf__1, e_X12_mothOf__2, e_X12_mothOf__3, e_X12_mothOf__4, wl_asksW, wl_T_un, wg_dv, t2, wx_bd, wx_let, wx_st, wx_lit, wx_ga, wx_sa, pk_mul, nI_add, wx_le, wx_lt, wx_eq, wx_en, wx_ne', wx_nn, wx_ltn, wx_len, wx_nlt, wx_nle, wx_bz0, wx_bz1, if_pos, if_neg, wx_ite, Nat.reduceEqDiff, eq_self, if_true, if_false, not_true_eq_false, not_false_eq_true]
set_option maxHeartbeats 1000000 in
theorem wl_max (x y : Int32) (σ : wg_M) : f_J9_max_7cf53 x y σ = some (if x ≤ y then y else x, σ) := by
  unfold f_J9_max_7cf53
  by_cases c : x < y
  · rw [if_pos c, if_pos (by rw [Int32.lt_iff_toInt_lt] at c; rw [Int32.le_iff_toInt_le]; omega)]
  · rw [if_neg c]
    by_cases c2 : x ≤ y
    · rw [if_pos c2]
      rw [Int32.lt_iff_toInt_lt] at c
      rw [Int32.le_iff_toInt_le] at c2
      rw [show x = y from Int32.toInt_inj.mp (by omega)]
    · rw [if_neg c2]
set_option maxHeartbeats 1000000 in
theorem wl_min (x y : Int32) (σ : wg_M) : f_J9_min_7cf53 x y σ = some (if y ≤ x then y else x, σ) := by
  unfold f_J9_min_7cf53
  by_cases c : y < x
  · rw [if_pos c, if_pos (by rw [Int32.lt_iff_toInt_lt] at c; rw [Int32.le_iff_toInt_le]; omega)]
  · rw [if_neg c]
    by_cases c2 : y ≤ x
    · rw [if_pos c2]
      rw [Int32.lt_iff_toInt_lt] at c
      rw [Int32.le_iff_toInt_le] at c2
      rw [show x = y from Int32.toInt_inj.mp (by omega)]
    · rw [if_neg c2]
set_option maxHeartbeats 1000000 in
theorem wl_greater (x y : Int32) (τ : wg_M) : f_X12_greater 0 x y τ = some (if x ≤ y then y else x, τ) := by
  rw [e_X12_greater]; split <;> rfl
set_option maxHeartbeats 1000000 in
theorem wl_lesser (x y : Int32) (τ : wg_M) : f_X12_lesser 0 x y τ = some (if y ≤ x then y else x, τ) := by
  rw [e_X12_lesser]; split <;> rfl
set_option maxHeartbeats 1000000 in
theorem wl_dies (h : wB nw nj nc σ 1 (τ 1) τ) (hN : wN nw nj nc τ) (hL : wLw σ 0 τ) {j : Nat} (hj : j < nj) : ∃ g σ' τ', g ≤ 1000 ∧ f_X1_diesOf 279 (nI j) σ = some (nI g, σ') ∧ f_X12_diesOf 0 (nI j) τ = some (nI g, τ') ∧ wSc σ σ' ∧ wSm τ τ' := by
  obtain ⟨n1, n2, n3, n4, n5, n6⟩ := hN
  obtain ⟨σ1, s1, s2, s3⟩ := wl_askN σ
  have hc : nI 0 ≤ nI 1000 := by decide
  have ew := wb_worn h hj
  rcases wb_wornc h hj with cw | ⟨w, hw, cw⟩
  · rw [cw, wx_m1] at ew
    obtain ⟨S, hS⟩ : ∃ S, S = wg_u (wg_u (wg_u (wg_u σ1 32 9 (σ 1 7)) 32 0 (σ 12 j)) 32 1 (σ 13 j)) 32 8 (σ 16 j) := ⟨_, rfl⟩
    obtain ⟨T, hT⟩ : ∃ T, T = wl_T τ (τ 1 (3 + j)) (τ 5 j) (nI 0) (nI 0) (nI 0) (nI 0) (τ 1 (33 + j)) := ⟨_, rfl⟩
    have fS : ∀ a, a ≠ 32 → S a = σ a := fun a ha => by
      rw [hS]; simp -implicitDefEqProofs (disch := omega) only [wx_un]; exact s1 a ha
    have fT : ∀ a, a ≠ 22 → T a = τ a := fun a ha => by
      rw [hT]; exact wl_T_un ha
    have hF : ∀ q, q < 10 → S 32 q = T 22 q := by
      intro q hq
      rw [hS, hT]
      rcases (show q = 0 ∨ q = 1 ∨ q = 2 ∨ q = 3 ∨ q = 4 ∨ q = 5 ∨ q = 6 ∨ q = 7 ∨ q = 8 ∨ q = 9 by omega) with rfl | rfl | rfl | rfl | rfl | rfl | rfl | rfl | rfl | rfl <;> simp -implicitDefEqProofs (disch := omega) only [wl_T, wx_uk, wx_un, pk_us, pk_un, wb_age h, wb_mind h, wb_tried h, wb_year h, s2]
    have hL2 : wLw S 0 T := wLw_fr (fun a q1 q2 => fS a (by omega)) (fun a i _ q => by rw [fT a (by omega)]) hL
    obtain ⟨r, σ', τ', t1, t2, t3, t4⟩ := wl_tell hL2 hF 2 (by omega) ((if nI 0 ≤ τ 1 (3 + j) - nI 60 then τ 1 (3 + j) - nI 60 else nI 0) * nI 9) (M := 1000) (by omega)
    obtain ⟨g, g1, g2⟩ := wh_h_in (x := r) (M := 1000) (by omega)
    refine ⟨g, σ', τ', g1, ?_, ?_, fun a h1 h2 => (t3 a h2).trans (fS a h1), fun a h1 h2 => (t4 a h2).trans (fT a h1)⟩
    · have e12 := wb_age h hj
      have e2 := wb_nw h
      rw [hS] at t1
      simp only [Nat.reduceAdd] at t1
      simp -implicitDefEqProofs (disch := omega) only [e_X1_diesOf, e_X1_diesOf__1, e_X1_diesOf__2, e_X1_diesOf__3, e_X1_diesOf__4, e_X1_diesOf__5, e_X1_diesOf__6, e_X1_diesOf_41, e_X1_diesOf_41__1, e_X1_diesOf_41__2, e_X1_diesOf_41__3, e_X1_diesOf_41__4, e_X9_has, s3, wl_askJ, wx_un, s1, ew, e2, wx_bd, wx_let, wx_st, wx_lit, wx_ga, wx_sa, pk_mul, nI_add, wx_le, wx_lt, wx_eq, wx_en, wx_ne', wx_nn, wx_ltn, wx_len, wx_nlt, wx_nle, wx_bz0, wx_bz1, if_pos, if_neg, wx_ite, Nat.reduceEqDiff, eq_self, if_true, if_false, not_true_eq_false, not_false_eq_true]
      rw [e12] at t1 ⊢
      simp -implicitDefEqProofs (disch := omega) only [e_X1_diesOf, e_X1_diesOf__1, e_X1_diesOf__2, e_X1_diesOf__3, e_X1_diesOf__4, e_X1_diesOf__5, e_X1_diesOf__6, e_X1_diesOf_41, e_X1_diesOf_41__1, e_X1_diesOf_41__2, e_X1_diesOf_41__3, e_X1_diesOf_41__4, wl_max, t1, wh_hC hc, g2, wx_bd, wx_let, wx_st, wx_lit, wx_ga, wx_sa, pk_mul, nI_add, wx_le, wx_lt, wx_eq, wx_en, wx_ne', wx_nn, wx_ltn, wx_len, wx_nlt, wx_nle, wx_bz0, wx_bz1, if_pos, if_neg, wx_ite, Nat.reduceEqDiff, eq_self, if_true, if_false, not_true_eq_false, not_false_eq_true]
    · rw [hT] at t2
      rw [g2] at t2
      simp -implicitDefEqProofs (disch := omega) only [e_X12_diesOf, e_X12_diesOf__1, e_X12_diesOf__2, e_X12_diesOf__3, e_X12_diesOf__4, e_X12_diesOf__5, e_X12_wigOf, e_X12_wigOf__1, cw, wx_m1, wl_asksJ, wl_T_un, wl_greater, wx_bd, wx_let, wx_st, wx_lit, wx_ga, wx_sa, pk_mul, nI_add, wx_le, wx_lt, wx_eq, wx_en, wx_ne', wx_nn, wx_ltn, wx_len, wx_nlt, wx_nle, wx_bz0, wx_bz1, if_pos, if_neg, wx_ite, Nat.reduceEqDiff, eq_self, if_true, if_false, not_true_eq_false, not_false_eq_true]
      rw [Int32.mul_comm] at t2
      simp -implicitDefEqProofs (disch := omega) only [e_X12_diesOf, e_X12_diesOf__1, e_X12_diesOf__2, e_X12_diesOf__3, e_X12_diesOf__4, e_X12_diesOf__5, t2, wx_bd, wx_let, wx_st, wx_lit, wx_ga, wx_sa, pk_mul, nI_add, wx_le, wx_lt, wx_eq, wx_en, wx_ne', wx_nn, wx_ltn, wx_len, wx_nlt, wx_nle, wx_bz0, wx_bz1, if_pos, if_neg, wx_ite, Nat.reduceEqDiff, eq_self, if_true, if_false, not_true_eq_false, not_false_eq_true]
  · rw [cw, wx_sub1] at ew
    obtain ⟨S, hS⟩ : ∃ S, S = wg_u (wg_u (wg_u (wg_u (wg_u (wg_u (wg_u (wg_u σ1 32 9 (σ 1 7)) 32 0 (σ 12 j)) 32 1 (σ 13 j)) 32 8 (σ 16 j)) 32 2 (σ 3 w)) 32 3 (σ 4 w)) 32 4 (σ 5 w)) 32 5 (σ 6 w) := ⟨_, rfl⟩
    obtain ⟨T, hT⟩ : ∃ T, T = wl_T τ (τ 1 (3 + j)) (τ 5 j) (τ 4 w) (τ 1 (43 + w)) (τ 1 (51 + w)) (τ 1 (59 + w)) (τ 1 (33 + j)) := ⟨_, rfl⟩
    have fS : ∀ a, a ≠ 32 → S a = σ a := fun a ha => by
      rw [hS]; simp -implicitDefEqProofs (disch := omega) only [wx_un]; exact s1 a ha
    have fT : ∀ a, a ≠ 22 → T a = τ a := fun a ha => by
      rw [hT]; exact wl_T_un ha
    have hF : ∀ q, q < 10 → S 32 q = T 22 q := by
      intro q hq
      rw [hS, hT]
      rcases (show q = 0 ∨ q = 1 ∨ q = 2 ∨ q = 3 ∨ q = 4 ∨ q = 5 ∨ q = 6 ∨ q = 7 ∨ q = 8 ∨ q = 9 by omega) with rfl | rfl | rfl | rfl | rfl | rfl | rfl | rfl | rfl | rfl <;> simp -implicitDefEqProofs (disch := omega) only [wl_T, wx_uk, wx_un, pk_us, pk_un, wb_age h, wb_mind h, wb_tried h, wb_colour h, wb_hair h, wb_itch h, wb_lent h, wb_year h, s2]
    have hL2 : wLw S 0 T := wLw_fr (fun a q1 q2 => fS a (by omega)) (fun a i _ q => by rw [fT a (by omega)]) hL
    obtain ⟨r, σ', τ', t1, t2, t3, t4⟩ := wl_tell hL2 hF 2 (by omega) ((if nI 0 ≤ τ 1 (3 + j) - nI 60 then τ 1 (3 + j) - nI 60 else nI 0) * nI 9) (M := 1000) (by omega)
    obtain ⟨g, g1, g2⟩ := wh_h_in (x := r) (M := 1000) (by omega)
    refine ⟨g, σ', τ', g1, ?_, ?_, fun a h1 h2 => (t3 a h2).trans (fS a h1), fun a h1 h2 => (t4 a h2).trans (fT a h1)⟩
    · have e12 := wb_age h hj
      have e2 := wb_nw h
      rw [hS] at t1
      simp only [Nat.reduceAdd] at t1
      simp -implicitDefEqProofs (disch := omega) only [e_X1_diesOf, e_X1_diesOf__1, e_X1_diesOf__2, e_X1_diesOf__3, e_X1_diesOf__4, e_X1_diesOf__5, e_X1_diesOf__6, e_X1_diesOf_41, e_X1_diesOf_41__1, e_X1_diesOf_41__2, e_X1_diesOf_41__3, e_X1_diesOf_41__4, e_X9_has, s3, wl_askJ, wl_askW, wx_un, s1, ew, e2, wx_bd, wx_let, wx_st, wx_lit, wx_ga, wx_sa, pk_mul, nI_add, wx_le, wx_lt, wx_eq, wx_en, wx_ne', wx_nn, wx_ltn, wx_len, wx_nlt, wx_nle, wx_bz0, wx_bz1, if_pos, if_neg, wx_ite, Nat.reduceEqDiff, eq_self, if_true, if_false, not_true_eq_false, not_false_eq_true]
      rw [e12] at t1 ⊢
      simp -implicitDefEqProofs (disch := omega) only [e_X1_diesOf, e_X1_diesOf__1, e_X1_diesOf__2, e_X1_diesOf__3, e_X1_diesOf__4, e_X1_diesOf__5, e_X1_diesOf__6, e_X1_diesOf_41, e_X1_diesOf_41__1, e_X1_diesOf_41__2, e_X1_diesOf_41__3, e_X1_diesOf_41__4, wl_max, t1, wh_hC hc, g2, wx_bd, wx_let, wx_st, wx_lit, wx_ga, wx_sa, pk_mul, nI_add, wx_le, wx_lt, wx_eq, wx_en, wx_ne', wx_nn, wx_ltn, wx_len, wx_nlt, wx_nle, wx_bz0, wx_bz1, if_pos, if_neg, wx_ite, Nat.reduceEqDiff, eq_self, if_true, if_false, not_true_eq_false, not_false_eq_true]
    · rw [hT] at t2
      rw [g2] at t2
      simp -implicitDefEqProofs (disch := omega) only [e_X12_diesOf, e_X12_diesOf__1, e_X12_diesOf__2, e_X12_diesOf__3, e_X12_diesOf__4, e_X12_diesOf__5, e_X12_wigOf, e_X12_wigOf__1, cw, wx_sub1, wl_asksJW, wl_T_un, wl_greater, wx_bd, wx_let, wx_st, wx_lit, wx_ga, wx_sa, pk_mul, nI_add, wx_le, wx_lt, wx_eq, wx_en, wx_ne', wx_nn, wx_ltn, wx_len, wx_nlt, wx_nle, wx_bz0, wx_bz1, if_pos, if_neg, wx_ite, Nat.reduceEqDiff, eq_self, if_true, if_false, not_true_eq_false, not_false_eq_true]
      rw [Int32.mul_comm] at t2
      simp -implicitDefEqProofs (disch := omega) only [e_X12_diesOf, e_X12_diesOf__1, e_X12_diesOf__2, e_X12_diesOf__3, e_X12_diesOf__4, e_X12_diesOf__5, t2, wx_bd, wx_let, wx_st, wx_lit, wx_ga, wx_sa, pk_mul, nI_add, wx_le, wx_lt, wx_eq, wx_en, wx_ne', wx_nn, wx_ltn, wx_len, wx_nlt, wx_nle, wx_bz0, wx_bz1, if_pos, if_neg, wx_ite, Nat.reduceEqDiff, eq_self, if_true, if_false, not_true_eq_false, not_false_eq_true]
end CO

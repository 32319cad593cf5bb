/-! PANELS: who finds for -/
set_option maxHeartbeats 1000000 in
theorem wv_0 {v : Nat} (h : v < 1999) : (nI v - nI 999 ≤ nI 0) = (v ≤ 999) := by
  apply propext
  rw [Int32.le_iff_toInt_le, pk_sub_toInt (by omega) (by omega), nI_toInt (by omega)]
  omega
/-- whether a JUDGE finds for the case: 1 for, 2 against, 0 dead; 3 the one asked for, alive -/
def wPk (τ : wg_M) (V : Nat → Nat) (o : Option Nat) (j : Nat) : Nat := if τ 1 (23 + j) = nI 0 then (if o = some j then 3 else if V j ≤ 999 then 2 else 1) else 0
section PA
variable {nw nj nc : Nat} {σ τ : wg_M}
set_option maxHeartbeats 1000000 in
theorem wl_finders (h : wB nw nj nc σ 1 (τ 1) τ) (hN : wN nw nj nc τ) {V : Nat → Nat → Nat} (hV : wVd nj nc σ τ V) {c : Nat} (hc : c < nc) {o : Option Nat} (ho : ∀ j, o = some j → j < nj) {q : Nat} (hq : q ≤ 1) : ∀ d i n σ', i + d = nj → d < n → wSc σ σ' → ∃ σ'', f_X7_finders_6 n 280 (nI c) (nI q) (wEn o) (nI (wck (wPk τ (V c) o) (2 - q) i)) (nI i) σ' = some (nI (wck (wPk τ (V c) o) (2 - q) nj), σ'') ∧ wSc σ σ'' := by
  obtain ⟨n1, n2, n3, n4, n5, n6⟩ := id hN
  have h01 : ¬ nI 0 = nI 1 := by decide
  have h10 : ¬ nI 1 = nI 0 := by decide
  intro d
  induction d with
  | zero =>
    intro i n σ' hi hn s1
    obtain ⟨n, rfl⟩ : ∃ k, n = k + 1 := ⟨n - 1, by omega⟩
    have e5 : σ' 11 5 = nI nj := by rw [s1 11 (by omega) (by omega)]; exact wb_nj h
    rw [show i = nj by omega]
    exact ⟨σ', by simp -implicitDefEqProofs (disch := omega) only [e_X7_finders_6, e_X7_finders_6__1, e5, wx_bd, wx_let, wx_st, wx_lit, wx_ga, wx_sa, pk_mul, nI_add, wx_le, wx_lt, wx_eq, wx_en, wx_ne', wx_nn, wx_ltn, wx_len, wx_nlt, wx_nle, wx_bz0, wx_bz1, if_pos, if_neg, wx_ite, Nat.reduceEqDiff, eq_self, if_true, if_false, not_true_eq_false, not_false_eq_true], s1⟩
  | succ d ih =>
    intro i n σ' hi hn s1
    obtain ⟨n, rfl⟩ : ∃ k, n = k + 1 := ⟨n - 1, by omega⟩
    have e5 : σ' 11 5 = nI nj := by rw [s1 11 (by omega) (by omega)]; exact wb_nj h
    have hij : i < nj := by omega
    have ks : wck (wPk τ (V c) o) (2 - q) (i + 1) = wck (wPk τ (V c) o) (2 - q) i + (if wPk τ (V c) o i = 2 - q then 1 else 0) := by
      unfold wck; simp only [wh_n]; simp
    have hb : wck (wPk τ (V c) o) (2 - q) i ≤ i := wh_n_le _ _
    by_cases co : o = some i
    · have kz : wck (wPk τ (V c) o) (2 - q) (i + 1) = wck (wPk τ (V c) o) (2 - q) i := by
        rw [ks, if_neg]
        · rfl
        · unfold wPk; rw [if_pos co]; split <;> omega
      obtain ⟨σ'', r1, r2⟩ := ih (i + 1) n σ' (by omega) (by omega) s1
      rw [kz] at r1
      refine ⟨σ'', ?_, r2⟩
      rw [← r1]
      subst co
      simp -implicitDefEqProofs (disch := omega) only [e_X7_finders_6, e_X7_finders_6__1, e_X7_finders_52, e_X7_finders_53, e_X7_finders_53__1, e_X7_finders_85, e_X7_finders_85__1, e5, wEn, wx_bd, wx_let, wx_st, wx_lit, wx_ga, wx_sa, pk_mul, nI_add, wx_le, wx_lt, wx_eq, wx_en, wx_ne', wx_nn, wx_ltn, wx_len, wx_nlt, wx_nle, wx_bz0, wx_bz1, if_pos, if_neg, wx_ite, Nat.reduceEqDiff, eq_self, if_true, if_false, not_true_eq_false, not_false_eq_true]
    · have ne : ¬ nI i = wEn o := by
        cases o with
        | none =>
          simp only [wEn]
          intro e
          have := congrArg Int32.toInt e
          rw [nI_toInt (by omega), wx_neg_toInt (by omega)] at this
          omega
        | some a =>
          simp only [wEn]
          have := ho a rfl
          rw [nI_eq (by omega) (by omega)]
          intro e; exact co (by rw [e])
      rcases wl_lives_s h hN hij with ⟨l0, l1, -⟩ | ⟨l0, l1, -⟩
      · have l1 := l1 σ' s1
        obtain ⟨hv, hvv⟩ := hV c i hc hij
        obtain ⟨σ1, τ1, a1, -, a3, -⟩ := hvv σ' τ s1 (wSm_rfl τ)
        have hv0 := wv_0 hv
        obtain ⟨σ'', r1, r2⟩ := ih (i + 1) n σ1 (by omega) (by omega) a3
        refine ⟨σ'', ?_, r2⟩
        have pk : wPk τ (V c) o i = if V c i ≤ 999 then 2 else 1 := by unfold wPk; rw [if_pos l0, if_neg co]
        rw [ks, pk] at r1
        rcases (show q = 0 ∨ q = 1 by omega) with rfl | rfl
        · by_cases cv : V c i ≤ 999
          · rw [if_pos cv, if_pos (by omega)] at r1
            rw [← r1]
            simp -implicitDefEqProofs (disch := omega) only [e_X7_finders_6, e_X7_finders_6__1, e_X7_finders_53, e_X7_finders_53__1, e_X7_finders_78, e_X7_finders_78__1, e_X7_finders_85, e_X7_finders_85__1, e5, ne, l1, a1, hv0, cv, wx_bd, wx_let, wx_st, wx_lit, wx_ga, wx_sa, pk_mul, nI_add, wx_le, wx_lt, wx_eq, wx_en, wx_ne', wx_nn, wx_ltn, wx_len, wx_nlt, wx_nle, wx_bz0, wx_bz1, if_pos, if_neg, wx_ite, Nat.reduceEqDiff, eq_self, if_true, if_false, not_true_eq_false, not_false_eq_true]
          · rw [if_neg cv, if_neg (by omega), Nat.add_zero] at r1
            rw [← r1]
            simp -implicitDefEqProofs (disch := omega) only [e_X7_finders_6, e_X7_finders_6__1, e_X7_finders_53, e_X7_finders_53__1, e_X7_finders_78, e_X7_finders_78__1, e_X7_finders_85, e_X7_finders_85__1, e5, ne, l1, a1, hv0, cv, h10, wx_bd, wx_let, wx_st, wx_lit, wx_ga, wx_sa, pk_mul, nI_add, wx_le, wx_lt, wx_eq, wx_en, wx_ne', wx_nn, wx_ltn, wx_len, wx_nlt, wx_nle, wx_bz0, wx_bz1, if_pos, if_neg, wx_ite, Nat.reduceEqDiff, eq_self, if_true, if_false, not_true_eq_false, not_false_eq_true]
        · by_cases cv : V c i ≤ 999
          · rw [if_pos cv, if_neg (by omega), Nat.add_zero] at r1
            rw [← r1]
            simp -implicitDefEqProofs (disch := omega) only [e_X7_finders_6, e_X7_finders_6__1, e_X7_finders_53, e_X7_finders_53__1, e_X7_finders_78, e_X7_finders_78__1, e_X7_finders_85, e_X7_finders_85__1, e5, ne, l1, a1, hv0, cv, h01, wx_bd, wx_let, wx_st, wx_lit, wx_ga, wx_sa, pk_mul, nI_add, wx_le, wx_lt, wx_eq, wx_en, wx_ne', wx_nn, wx_ltn, wx_len, wx_nlt, wx_nle, wx_bz0, wx_bz1, if_pos, if_neg, wx_ite, Nat.reduceEqDiff, eq_self, if_true, if_false, not_true_eq_false, not_false_eq_true]
          · rw [if_neg cv, if_pos (by omega)] at r1
            rw [← r1]
            simp -implicitDefEqProofs (disch := omega) only [e_X7_finders_6, e_X7_finders_6__1, e_X7_finders_53, e_X7_finders_53__1, e_X7_finders_78, e_X7_finders_78__1, e_X7_finders_85, e_X7_finders_85__1, e5, ne, l1, a1, hv0, cv, wx_bd, wx_let, wx_st, wx_lit, wx_ga, wx_sa, pk_mul, nI_add, wx_le, wx_lt, wx_eq, wx_en, wx_ne', wx_nn, wx_ltn, wx_len, wx_nlt, wx_nle, wx_bz0, wx_bz1, if_pos, if_neg, wx_ite, Nat.reduceEqDiff, eq_self, if_true, if_false, not_true_eq_false, not_false_eq_true]
      · have l1 := l1 σ' s1
        have kz : wck (wPk τ (V c) o) (2 - q) (i + 1) = wck (wPk τ (V c) o) (2 - q) i := by
          rw [ks, if_neg]
          · rfl
          · unfold wPk; rw [if_neg (by rw [l0]; exact h10)]; omega
        obtain ⟨σ'', r1, r2⟩ := ih (i + 1) n σ' (by omega) (by omega) s1
        rw [kz] at r1
        refine ⟨σ'', ?_, r2⟩
        rw [← r1]
        simp -implicitDefEqProofs (disch := omega) only [e_X7_finders_6, e_X7_finders_6__1, e_X7_finders_52, e_X7_finders_53, e_X7_finders_53__1, e_X7_finders_85, e_X7_finders_85__1, e5, ne, l1, wx_bd, wx_let, wx_st, wx_lit, wx_ga, wx_sa, pk_mul, nI_add, wx_le, wx_lt, wx_eq, wx_en, wx_ne', wx_nn, wx_ltn, wx_len, wx_nlt, wx_nle, wx_bz0, wx_bz1, if_pos, if_neg, wx_ite, Nat.reduceEqDiff, eq_self, if_true, if_false, not_true_eq_false, not_false_eq_true]
def wFs (τ : wg_M) (V : Nat → Nat) (j : Nat) : Bool := decide (τ 1 (23 + j) = nI 0 ∧ ¬ V j ≤ 999)
set_option maxHeartbeats 1000000 in
theorem wl_findSet (h : wB nw nj nc σ 1 (τ 1) τ) (hN : wN nw nj nc τ) {V : Nat → Nat → Nat} (hV : wVd nj nc σ τ V) {c : Nat} (hc : c < nc) : ∀ d i n τ', i + d = nj → d < n → wSm τ τ' → ∃ τ'', f_X12_findingSet_4 n 0 (nI c) (nI (wh_m (wFs τ (V c)) i)) (nI i) τ' = some (nI (wh_m (wFs τ (V c)) nj), τ'') ∧ wSm τ τ'' := by
  obtain ⟨n1, n2, n3, n4, n5, n6⟩ := id hN
  have h10 : ¬ nI 1 = nI 0 := by decide
  intro d
  induction d with
  | zero =>
    intro i n τ' hi hn s1
    obtain ⟨n, rfl⟩ : ∃ k, n = k + 1 := ⟨n - 1, by omega⟩
    have e5 : τ' 0 7 = nI nj := by rw [s1 0 (by omega) (by omega)]; exact n5
    rw [show i = nj by omega]
    exact ⟨τ', by simp -implicitDefEqProofs (disch := omega) only [e_X12_findingSet_4, e_X12_findingSet_4__1, e_X12_findingSet_4__2, e_X12_findingSet_4__3, e5, wx_bd, wx_let, wx_st, wx_lit, wx_ga, wx_sa, pk_mul, nI_add, wx_le, wx_lt, wx_eq, wx_en, wx_ne', wx_nn, wx_ltn, wx_len, wx_nlt, wx_nle, wx_bz0, wx_bz1, if_pos, if_neg, wx_ite, Nat.reduceEqDiff, eq_self, if_true, if_false, not_true_eq_false, not_false_eq_true], s1⟩
  | succ d ih =>
    intro i n τ' hi hn s1
    obtain ⟨n, rfl⟩ : ∃ k, n = k + 1 := ⟨n - 1, by omega⟩
    have e5 : τ' 0 7 = nI nj := by rw [s1 0 (by omega) (by omega)]; exact n5
    have hij : i < nj := by omega
    have es := wx_shl i (by omega)
    rcases wl_lives_s h hN hij with ⟨l0, -, l1⟩ | ⟨l0, -, l1⟩
    · have l1 := l1 τ' s1
      obtain ⟨hv, hvv⟩ := hV c i hc hij
      obtain ⟨σ1, τ1, -, a1, -, a3⟩ := hvv σ τ' (wSc_rfl σ) s1
      have hv0 := wv_0 hv
      obtain ⟨τ'', r1, r2⟩ := ih (i + 1) n τ1 (by omega) (by omega) a3
      refine ⟨τ'', ?_, r2⟩
      by_cases cv : V c i ≤ 999
      · have m1 : wh_m (wFs τ (V c)) (i + 1) = wh_m (wFs τ (V c)) i := by simp [wh_m, wFs, cv]
        rw [m1] at r1
        rw [← r1]
        simp -implicitDefEqProofs (disch := omega) only [e_X12_findingSet_4, e_X12_findingSet_4__1, e_X12_findingSet_4__2, e_X12_findingSet_4__3, e_X12_findingSet_35, e_X12_findingSet_35__1, e5, l1, a1, hv0, cv, wx_bd, wx_let, wx_st, wx_lit, wx_ga, wx_sa, pk_mul, nI_add, wx_le, wx_lt, wx_eq, wx_en, wx_ne', wx_nn, wx_ltn, wx_len, wx_nlt, wx_nle, wx_bz0, wx_bz1, if_pos, if_neg, wx_ite, Nat.reduceEqDiff, eq_self, if_true, if_false, not_true_eq_false, not_false_eq_true]
      · have m1 : wh_m (wFs τ (V c)) (i + 1) = wh_m (wFs τ (V c)) i ||| 2 ^ i := by simp [wh_m, wFs, cv, l0]
        rw [m1] at r1
        rw [← r1]
        simp -implicitDefEqProofs (disch := omega) only [e_X12_findingSet_4, e_X12_findingSet_4__1, e_X12_findingSet_4__2, e_X12_findingSet_4__3, e_X12_findingSet_35, e_X12_findingSet_35__1, e5, l1, a1, hv0, cv, es, fa_or, wx_bd, wx_let, wx_st, wx_lit, wx_ga, wx_sa, pk_mul, nI_add, wx_le, wx_lt, wx_eq, wx_en, wx_ne', wx_nn, wx_ltn, wx_len, wx_nlt, wx_nle, wx_bz0, wx_bz1, if_pos, if_neg, wx_ite, Nat.reduceEqDiff, eq_self, if_true, if_false, not_true_eq_false, not_false_eq_true]
    · have l1 := l1 τ' s1
      obtain ⟨τ'', r1, r2⟩ := ih (i + 1) n τ' (by omega) (by omega) s1
      refine ⟨τ'', ?_, r2⟩
      have m1 : wh_m (wFs τ (V c)) (i + 1) = wh_m (wFs τ (V c)) i := by simp [wh_m, wFs, l0, h10]
      rw [m1] at r1
      rw [← r1]
      simp -implicitDefEqProofs (disch := omega) only [e_X12_findingSet_4, e_X12_findingSet_4__1, e_X12_findingSet_4__2, e_X12_findingSet_4__3, e_X12_findingSet_35, e_X12_findingSet_35__1, e5, l1, wx_bd, wx_let, wx_st, wx_lit, wx_ga, wx_sa, pk_mul, nI_add, wx_le, wx_lt, wx_eq, wx_en, wx_ne', wx_nn, wx_ltn, wx_len, wx_nlt, wx_nle, wx_bz0, wx_bz1, if_pos, if_neg, wx_ite, Nat.reduceEqDiff, eq_self, if_true, if_false, not_true_eq_false, not_false_eq_true]
end PA

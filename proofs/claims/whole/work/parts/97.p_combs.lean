set_option maxHeartbeats 1000000 in
theorem wx_sub8 : ∀ a, a ≤ 8 → ∀ b, b ≤ 8 → (nI a - nI b < nI 0 ↔ a < b) ∧ (nI a - nI b = nI 0 ↔ a = b) := by decide +kernel
set_option maxHeartbeats 1000000 in
theorem wx_pcT : ∀ k, k ≤ 8 → ∀ X, X < 2 ^ k → wh_pc (2 ^ k - 1) ≤ wh_pc X → 2 ^ k - 1 ≤ X := by decide +kernel
set_option maxHeartbeats 1000000 in
theorem wl_toComb_l {w k : Nat} {σ : wg_M} (hw : w < 8) (hk : σ 7 w = nI k) (hk8 : k ≤ 8) : ∀ d g n, g + d = 8 → d < n → f_X9_toComb_4 n 2 (nI w) (nI (wh_m (wcT (fun i => σ 8 (w * 8 + i)) (fun i => σ 9 (w * 8 + i)) k g) k)) (nI g) σ = some (nI (wh_m (wcT (fun i => σ 8 (w * 8 + i)) (fun i => σ 9 (w * 8 + i)) k 8) k), σ) := by
  intro d
  induction d with
  | zero =>
    intro g n hg hn
    obtain ⟨n, rfl⟩ : ∃ k, n = k + 1 := ⟨n - 1, by omega⟩
    obtain rfl : g = 8 := by omega
    simp -implicitDefEqProofs (disch := omega) only [e_X9_toComb_4, e_X9_toComb_4__1, e_X9_toComb_4__2, e_X9_toComb_4__3, e_X9_toComb_4__4, e_X9_toComb_4__5, wx_bd, wx_let, wx_st, wx_lit, wx_ga, wx_sa, pk_mul, nI_add, wx_le, wx_lt, wx_eq, wx_en, wx_ne', wx_nn, wx_ltn, wx_len, wx_nlt, wx_nle, wx_bz0, wx_bz1, if_pos, if_neg, wx_ite, Nat.reduceEqDiff, eq_self, if_true, if_false, not_true_eq_false, not_false_eq_true]
  | succ d ih =>
    intro g n hg hn
    obtain ⟨n, rfl⟩ : ∃ k, n = k + 1 := ⟨n - 1, by omega⟩
    have st := ih (g + 1) n (by omega) (by omega)
    have rN := wl_rN hw hk hk8 (nI g)
    have rP := wl_rP hw hk hk8 (nI g)
    have kN := wKy_eq (wpN (fun i => σ 8 (w * 8 + i)) (fun i => σ 9 (w * 8 + i)) (nI g)) k
    have kP := wKy_eq (wpP (fun i => σ 8 (w * 8 + i)) (fun i => σ 9 (w * 8 + i)) (nI g)) k
    have pN := wh_pc_m (wpN (fun i => σ 8 (w * 8 + i)) (fun i => σ 9 (w * 8 + i)) (nI g)) (show k ≤ 10 by omega)
    have pP := wh_pc_m (wpP (fun i => σ 8 (w * 8 + i)) (fun i => σ 9 (w * 8 + i)) (nI g)) (show k ≤ 10 by omega)
    have lN := wh_m8 (wpN (fun i => σ 8 (w * 8 + i)) (fun i => σ 9 (w * 8 + i)) (nI g)) hk8
    have lP := wh_m8 (wpP (fun i => σ 8 (w * 8 + i)) (fun i => σ 9 (w * 8 + i)) (nI g)) hk8
    have cN := wh_n_le (wpN (fun i => σ 8 (w * 8 + i)) (fun i => σ 9 (w * 8 + i)) (nI g)) k
    have cP := wh_n_le (wpP (fun i => σ 8 (w * 8 + i)) (fun i => σ 9 (w * 8 + i)) (nI g)) k
    have oN : wch (fun i => σ 8 (w * 8 + i)) (fun i => σ 9 (w * 8 + i)) k g = true → wh_m (wcT (fun i => σ 8 (w * 8 + i)) (fun i => σ 9 (w * 8 + i)) k g) k ||| wh_m (wpN (fun i => σ 8 (w * 8 + i)) (fun i => σ 9 (w * 8 + i)) (nI g)) k = wh_m (wcT (fun i => σ 8 (w * 8 + i)) (fun i => σ 9 (w * 8 + i)) k (g + 1)) k := fun c => by
      have e : wxt (fun i => σ 8 (w * 8 + i)) (fun i => σ 9 (w * 8 + i)) k g = wpN (fun i => σ 8 (w * 8 + i)) (fun i => σ 9 (w * 8 + i)) (nI g) := by funext i; unfold wxt; rw [if_pos c]
      rw [wh_m_or, ← e]; rfl
    have oP : ¬ wch (fun i => σ 8 (w * 8 + i)) (fun i => σ 9 (w * 8 + i)) k g = true → wh_m (wcT (fun i => σ 8 (w * 8 + i)) (fun i => σ 9 (w * 8 + i)) k g) k ||| wh_m (wpP (fun i => σ 8 (w * 8 + i)) (fun i => σ 9 (w * 8 + i)) (nI g)) k = wh_m (wcT (fun i => σ 8 (w * 8 + i)) (fun i => σ 9 (w * 8 + i)) k (g + 1)) k := fun c => by
      have e : wxt (fun i => σ 8 (w * 8 + i)) (fun i => σ 9 (w * 8 + i)) k g = wpP (fun i => σ 8 (w * 8 + i)) (fun i => σ 9 (w * 8 + i)) (nI g) := by funext i; unfold wxt; rw [if_neg c]
      rw [wh_m_or, ← e]; rfl
    simp only [wch, decide_eq_true_eq, kN, kP] at oN oP
    rw [← pN, ← pP] at oN oP
    rw [← pN] at cN
    rw [← pP] at cP
    clear kN kP pN pP
    generalize wh_m (wpN (fun i => σ 8 (w * 8 + i)) (fun i => σ 9 (w * 8 + i)) (nI g)) k = N at *
    generalize wh_m (wpP (fun i => σ 8 (w * 8 + i)) (fun i => σ 9 (w * 8 + i)) (nI g)) k = P at *
    have bN := wh_bc_pc N (by omega)
    have bP := wh_bc_pc P (by omega)
    obtain ⟨s1, s2⟩ := wx_sub8 (wh_pc N) (by omega) (wh_pc P) (by omega)
    rcases Nat.lt_trichotomy (wh_pc N) (wh_pc P) with c | c | c
    · have s1 := s1.2 c
      simp -implicitDefEqProofs (disch := omega) only [e_X9_toComb_4, e_X9_toComb_4__1, e_X9_toComb_4__2, e_X9_toComb_4__3, e_X9_toComb_4__4, e_X9_toComb_4__5, e_X9_toComb_58, e_X9_toComb_63, e_X9_toComb_78, e_X9_toComb_78__1, e_X9_toComb_78__2, rN, rP, wh_bcC, bN, bP, s1, fa_or, oN (by omega), wx_bd, wx_let, wx_st, wx_lit, wx_ga, wx_sa, pk_mul, nI_add, wx_le, wx_lt, wx_eq, wx_en, wx_ne', wx_nn, wx_ltn, wx_len, wx_nlt, wx_nle, wx_bz0, wx_bz1, if_pos, if_neg, wx_ite, Nat.reduceEqDiff, eq_self, if_true, if_false, not_true_eq_false, not_false_eq_true]
      exact st
    · have s1 := fun q => Nat.lt_irrefl (wh_pc P) (c ▸ s1.1 q)
      have s2 := s2.2 c
      by_cases q : P ≤ N
      · simp -implicitDefEqProofs (disch := omega) only [e_X9_toComb_4, e_X9_toComb_4__1, e_X9_toComb_4__2, e_X9_toComb_4__3, e_X9_toComb_4__4, e_X9_toComb_4__5, e_X9_toComb_62, e_X9_toComb_63, e_X9_toComb_78, e_X9_toComb_78__1, e_X9_toComb_78__2, rN, rP, wh_bcC, bN, bP, s1, s2, fa_or, oP (by omega), wx_bd, wx_let, wx_st, wx_lit, wx_ga, wx_sa, pk_mul, nI_add, wx_le, wx_lt, wx_eq, wx_en, wx_ne', wx_nn, wx_ltn, wx_len, wx_nlt, wx_nle, wx_bz0, wx_bz1, if_pos, if_neg, wx_ite, Nat.reduceEqDiff, eq_self, if_true, if_false, not_true_eq_false, not_false_eq_true]
        exact st
      · simp -implicitDefEqProofs (disch := omega) only [e_X9_toComb_4, e_X9_toComb_4__1, e_X9_toComb_4__2, e_X9_toComb_4__3, e_X9_toComb_4__4, e_X9_toComb_4__5, e_X9_toComb_58, e_X9_toComb_63, e_X9_toComb_78, e_X9_toComb_78__1, e_X9_toComb_78__2, rN, rP, wh_bcC, bN, bP, s1, s2, fa_or, oN (by omega), wx_bd, wx_let, wx_st, wx_lit, wx_ga, wx_sa, pk_mul, nI_add, wx_le, wx_lt, wx_eq, wx_en, wx_ne', wx_nn, wx_ltn, wx_len, wx_nlt, wx_nle, wx_bz0, wx_bz1, if_pos, if_neg, wx_ite, Nat.reduceEqDiff, eq_self, if_true, if_false, not_true_eq_false, not_false_eq_true]
        exact st
    · have s1 : ¬ nI (wh_pc N) - nI (wh_pc P) < nI 0 := fun q => by have := s1.1 q; omega
      have s2 : ¬ nI (wh_pc N) - nI (wh_pc P) = nI 0 := fun q => by have := s2.1 q; omega
      simp -implicitDefEqProofs (disch := omega) only [e_X9_toComb_4, e_X9_toComb_4__1, e_X9_toComb_4__2, e_X9_toComb_4__3, e_X9_toComb_4__4, e_X9_toComb_4__5, e_X9_toComb_62, e_X9_toComb_63, e_X9_toComb_78, e_X9_toComb_78__1, e_X9_toComb_78__2, rN, rP, wh_bcC, bN, bP, s1, s2, fa_or, oP (by omega), wx_bd, wx_let, wx_st, wx_lit, wx_ga, wx_sa, pk_mul, nI_add, wx_le, wx_lt, wx_eq, wx_en, wx_ne', wx_nn, wx_ltn, wx_len, wx_nlt, wx_nle, wx_bz0, wx_bz1, if_pos, if_neg, wx_ite, Nat.reduceEqDiff, eq_self, if_true, if_false, not_true_eq_false, not_false_eq_true]
      exact st
set_option maxHeartbeats 1000000 in
theorem wl_toComb {w k : Nat} {σ : wg_M} (hw : w < 8) (hk : σ 7 w = nI k) (hk8 : k ≤ 8) : f_X9_toComb 2 (nI w) σ = some (nI (wh_m (wcT (fun i => σ 8 (w * 8 + i)) (fun i => σ 9 (w * 8 + i)) k 8) k), σ) := by
  have h0 : ∀ k, wh_m (wcT (fun i => σ 8 (w * 8 + i)) (fun i => σ 9 (w * 8 + i)) k 0) k = 0 := fun k => by
    apply Nat.eq_of_testBit_eq
    intro i
    rw [wh_m_bit]
    simp [wcT]
  have := wl_toComb_l hw hk hk8 8 0 wg_N (by omega) (by rw [wx_N]; omega)
  rw [h0] at this
  rw [e_X9_toComb]
  exact this
section AG
variable {w k S : Nat} {τ : wg_M}
set_option maxHeartbeats 1000000 in
theorem wl_ag18 (hw : w < 8) (hS : S < 256) (K : Nat → Int32 → Int32 → Int32 → wg_M → Option (Int32 × wg_M)) {i : Nat} (hi : i < 8) : ∀ d j n, j + d = i → d < n → (f_X12_agrees_18 K n 0 (nI w) (nI S) (nI i) (nI j) τ = K 0 (nI w) (nI S) (nI (i + 1)) τ ∧ ∀ j', j ≤ j' → j' < i → S.testBit i = false → S.testBit j' = false → wIt (fun i => τ 1 (75 + 24 * w + 3 * i)) (fun i => τ 1 (75 + 24 * w + 3 * i + 1)) i j' = false) ∨ (f_X12_agrees_18 K n 0 (nI w) (nI S) (nI i) (nI j) τ = some (nI 0, τ) ∧ ∃ j', j' < i ∧ S.testBit i = false ∧ S.testBit j' = false ∧ wIt (fun i => τ 1 (75 + 24 * w + 3 * i)) (fun i => τ 1 (75 + 24 * w + 3 * i + 1)) i j' = true) := by
  intro d
  induction d with
  | zero =>
    intro j n hj hn
    obtain ⟨n, rfl⟩ : ∃ k, n = k + 1 := ⟨n - 1, by omega⟩
    exact Or.inl ⟨by simp -implicitDefEqProofs (disch := omega) only [e_X12_agrees_18, e_X12_agrees_18__1, e_X12_agrees_18__2, e_X12_agrees_18__3, e_X12_agrees_18__4, wx_bd, wx_let, wx_st, wx_lit, wx_ga, wx_sa, pk_mul, nI_add, wx_le, wx_lt, wx_eq, wx_en, wx_ne', wx_nn, wx_ltn, wx_len, wx_nlt, wx_nle, wx_bz0, wx_bz1, if_pos, if_neg, wx_ite, Nat.reduceEqDiff, eq_self, if_true, if_false, not_true_eq_false, not_false_eq_true], fun j' h1 h2 => by omega⟩
  | succ d ih =>
    intro j n hj hn
    obtain ⟨n, rfl⟩ : ∃ k, n = k + 1 := ⟨n - 1, by omega⟩
    have ih := ih (j + 1) n (by omega) (by omega)
    have go : (S.testBit i = false → S.testBit j = false → wIt (fun i => τ 1 (75 + 24 * w + 3 * i)) (fun i => τ 1 (75 + 24 * w + 3 * i + 1)) i j = false) → f_X12_agrees_18 K (n + 1) 0 (nI w) (nI S) (nI i) (nI j) τ = f_X12_agrees_18 K n 0 (nI w) (nI S) (nI i) (nI (j + 1)) τ → (f_X12_agrees_18 K (n + 1) 0 (nI w) (nI S) (nI i) (nI j) τ = K 0 (nI w) (nI S) (nI (i + 1)) τ ∧ ∀ j', j ≤ j' → j' < i → S.testBit i = false → S.testBit j' = false → wIt (fun i => τ 1 (75 + 24 * w + 3 * i)) (fun i => τ 1 (75 + 24 * w + 3 * i + 1)) i j' = false) ∨ (f_X12_agrees_18 K (n + 1) 0 (nI w) (nI S) (nI i) (nI j) τ = some (nI 0, τ) ∧ ∃ j', j' < i ∧ S.testBit i = false ∧ S.testBit j' = false ∧ wIt (fun i => τ 1 (75 + 24 * w + 3 * i)) (fun i => τ 1 (75 + 24 * w + 3 * i + 1)) i j' = true) := fun q e => by
      rw [e]
      refine ih.imp (fun ⟨a, b⟩ => ⟨a, fun j' h1 h2 => ?_⟩) id
      by_cases ej : j' = j
      · subst ej; exact q
      · exact b j' (by omega) h2
    by_cases c1 : S.testBit i = true
    · have e1 := wl_has1 (show S < 2147483648 by omega) (show i < 31 by omega) c1 τ
      exact go (fun q => by rw [c1] at q; cases q) (by simp -implicitDefEqProofs (disch := omega) only [e_X12_agrees_18, e_X12_agrees_18__1, e_X12_agrees_18__2, e_X12_agrees_18__3, e_X12_agrees_18__4, e_X12_agrees_56, e_X12_agrees_56__1, e1, wx_bd, wx_let, wx_st, wx_lit, wx_ga, wx_sa, pk_mul, nI_add, wx_le, wx_lt, wx_eq, wx_en, wx_ne', wx_nn, wx_ltn, wx_len, wx_nlt, wx_nle, wx_bz0, wx_bz1, if_pos, if_neg, wx_ite, Nat.reduceEqDiff, eq_self, if_true, if_false, not_true_eq_false, not_false_eq_true])
    · have e1 := wl_has0 (show S < 2147483648 by omega) (show i < 31 by omega) c1 τ
      by_cases c2 : S.testBit j = true
      · have e2 := wl_has1 (show S < 2147483648 by omega) (show j < 31 by omega) c2 τ
        exact go (fun _ q => by rw [c2] at q; cases q) (by simp -implicitDefEqProofs (disch := omega) only [e_X12_agrees_18, e_X12_agrees_18__1, e_X12_agrees_18__2, e_X12_agrees_18__3, e_X12_agrees_18__4, e_X12_agrees_56, e_X12_agrees_56__1, e1, e2, wx_bd, wx_let, wx_st, wx_lit, wx_ga, wx_sa, pk_mul, nI_add, wx_le, wx_lt, wx_eq, wx_en, wx_ne', wx_nn, wx_ltn, wx_len, wx_nlt, wx_nle, wx_bz0, wx_bz1, if_pos, if_neg, wx_ite, Nat.reduceEqDiff, eq_self, if_true, if_false, not_true_eq_false, not_false_eq_true])
      · have e2 := wl_has0 (show S < 2147483648 by omega) (show j < 31 by omega) c2 τ
        have e3 := wl_itching hw hi (show j < 8 by omega) τ
        by_cases c3 : wIt (fun i => τ 1 (75 + 24 * w + 3 * i)) (fun i => τ 1 (75 + 24 * w + 3 * i + 1)) i j = true
        · rw [if_pos c3] at e3
          exact Or.inr ⟨by simp -implicitDefEqProofs (disch := omega) only [e_X12_agrees_18, e_X12_agrees_18__1, e_X12_agrees_18__2, e_X12_agrees_18__3, e_X12_agrees_18__4, e_X12_agrees_56, e_X12_agrees_56__1, e1, e2, e3, wx_bd, wx_let, wx_st, wx_lit, wx_ga, wx_sa, pk_mul, nI_add, wx_le, wx_lt, wx_eq, wx_en, wx_ne', wx_nn, wx_ltn, wx_len, wx_nlt, wx_nle, wx_bz0, wx_bz1, if_pos, if_neg, wx_ite, Nat.reduceEqDiff, eq_self, if_true, if_false, not_true_eq_false, not_false_eq_true], j, by omega, by simpa using c1, by simpa using c2, c3⟩
        · rw [if_neg c3] at e3
          exact go (fun _ _ => by simpa using c3) (by simp -implicitDefEqProofs (disch := omega) only [e_X12_agrees_18, e_X12_agrees_18__1, e_X12_agrees_18__2, e_X12_agrees_18__3, e_X12_agrees_18__4, e_X12_agrees_56, e_X12_agrees_56__1, e1, e2, e3, wx_bd, wx_let, wx_st, wx_lit, wx_ga, wx_sa, pk_mul, nI_add, wx_le, wx_lt, wx_eq, wx_en, wx_ne', wx_nn, wx_ltn, wx_len, wx_nlt, wx_nle, wx_bz0, wx_bz1, if_pos, if_neg, wx_ite, Nat.reduceEqDiff, eq_self, if_true, if_false, not_true_eq_false, not_false_eq_true])
set_option maxHeartbeats 1000000 in
theorem wl_ag2 (hw : w < 8) (hS : S < 256) (hk : τ 1 (67 + w) = nI k) (hk8 : k ≤ 8) : ∀ d i n, i + d = k → d < n → (f_X12_agrees_2 n 0 (nI w) (nI S) (nI i) τ = some (nI 1, τ) ∧ ∀ i' j', i ≤ i' → i' < k → j' < i' → S.testBit i' = false → S.testBit j' = false → wIt (fun i => τ 1 (75 + 24 * w + 3 * i)) (fun i => τ 1 (75 + 24 * w + 3 * i + 1)) i' j' = false) ∨ (f_X12_agrees_2 n 0 (nI w) (nI S) (nI i) τ = some (nI 0, τ) ∧ ∃ i' j', i' < k ∧ j' < i' ∧ S.testBit i' = false ∧ S.testBit j' = false ∧ wIt (fun i => τ 1 (75 + 24 * w + 3 * i)) (fun i => τ 1 (75 + 24 * w + 3 * i + 1)) i' j' = true) := by
  intro d
  induction d with
  | zero =>
    intro i n hi hn
    obtain ⟨n, rfl⟩ : ∃ k, n = k + 1 := ⟨n - 1, by omega⟩
    exact Or.inl ⟨by simp -implicitDefEqProofs (disch := omega) only [e_X12_agrees_2, e_X12_agrees_2__1, hk, wx_bd, wx_let, wx_st, wx_lit, wx_ga, wx_sa, pk_mul, nI_add, wx_le, wx_lt, wx_eq, wx_en, wx_ne', wx_nn, wx_ltn, wx_len, wx_nlt, wx_nle, wx_bz0, wx_bz1, if_pos, if_neg, wx_ite, Nat.reduceEqDiff, eq_self, if_true, if_false, not_true_eq_false, not_false_eq_true], fun i' j' h1 h2 => by omega⟩
  | succ d ih =>
    intro i n hi hn
    obtain ⟨n, rfl⟩ : ∃ k, n = k + 1 := ⟨n - 1, by omega⟩
    have st : f_X12_agrees_2 (n + 1) 0 (nI w) (nI S) (nI i) τ = f_X12_agrees_18 (f_X12_agrees_2 n) wg_N 0 (nI w) (nI S) (nI i) (nI 0) τ := by
      simp -implicitDefEqProofs (disch := omega) only [e_X12_agrees_2, e_X12_agrees_2__1, hk, wx_bd, wx_let, wx_st, wx_lit, wx_ga, wx_sa, pk_mul, nI_add, wx_le, wx_lt, wx_eq, wx_en, wx_ne', wx_nn, wx_ltn, wx_len, wx_nlt, wx_nle, wx_bz0, wx_bz1, if_pos, if_neg, wx_ite, Nat.reduceEqDiff, eq_self, if_true, if_false, not_true_eq_false, not_false_eq_true]
    rw [st]
    rcases wl_ag18 (τ := τ) hw hS (f_X12_agrees_2 n) (show i < 8 by omega) i 0 wg_N (by omega) (by rw [wx_N]; omega) with ⟨a, b⟩ | ⟨a, j', b1, b2, b3, b4⟩
    · rw [a]
      refine (ih (i + 1) n (by omega) (by omega)).imp (fun ⟨p, q⟩ => ⟨p, fun i' j' h1 h2 h3 => ?_⟩) id
      by_cases e : i' = i
      · subst e; exact b j' (by omega) h3
      · exact q i' j' (by omega) h2 h3
    · exact Or.inr ⟨a, i, j', by omega, b1, b2, b3, b4⟩
set_option maxHeartbeats 1000000 in
theorem wl_agrees (hw : w < 8) (hS : S < 256) (hk : τ 1 (67 + w) = nI k) (hk8 : k ≤ 8) : (f_X12_agrees 0 (nI w) (nI S) τ = some (nI 1, τ) ∧ wGd (fun i => τ 1 (75 + 24 * w + 3 * i)) (fun i => τ 1 (75 + 24 * w + 3 * i + 1)) k (fun i => S.testBit i)) ∨ (f_X12_agrees 0 (nI w) (nI S) τ = some (nI 0, τ) ∧ ¬ wGd (fun i => τ 1 (75 + 24 * w + 3 * i)) (fun i => τ 1 (75 + 24 * w + 3 * i + 1)) k (fun i => S.testBit i)) := by
  rw [e_X12_agrees, wx_lit]
  refine (wl_ag2 hw hS hk hk8 k 0 wg_N (by omega) (by rw [wx_N]; omega)).imp (fun ⟨a, b⟩ => ⟨a, fun i j hi hj => b i j (by omega) hi hj⟩) (fun ⟨a, i, j, hi, hj, h1, h2, h3⟩ => ⟨a, fun q => ?_⟩)
  have := q i j hi hj h1 h2
  rw [h3] at this
  cases this
set_option maxHeartbeats 1000000 in
theorem wl_combs_l (hw : w < 8) (hk : τ 1 (67 + w) = nI k) (hk8 : k ≤ 8) {q : Nat} (hq : q ≤ 1) : ∀ d X B n, X + d = 2 ^ k → d < n → B < 2 ^ k → wGd (fun i => τ 1 (75 + 24 * w + 3 * i)) (fun i => τ 1 (75 + 24 * w + 3 * i + 1)) k (fun i => B.testBit i) → (B < X ∨ B = 2 ^ k - 1) → (∀ S, S < X → wGd (fun i => τ 1 (75 + 24 * w + 3 * i)) (fun i => τ 1 (75 + 24 * w + 3 * i + 1)) k (fun i => S.testBit i) → 256 * wh_pc B + B ≤ 256 * wh_pc S + S) → ∃ T, T < 2 ^ k ∧ wGd (fun i => τ 1 (75 + 24 * w + 3 * i)) (fun i => τ 1 (75 + 24 * w + 3 * i + 1)) k (fun i => T.testBit i) ∧ (∀ S, S < 2 ^ k → wGd (fun i => τ 1 (75 + 24 * w + 3 * i)) (fun i => τ 1 (75 + 24 * w + 3 * i + 1)) k (fun i => S.testBit i) → 256 * wh_pc T + T ≤ 256 * wh_pc S + S) ∧ f_X12_combs_42 n 0 (nI w) (nI q) (nI B) (nI X) τ = some (if q = 0 then nI (wh_pc T) else nI T, τ) := by
  have h2 : 2 ^ k ≤ 256 := by
    have := Nat.pow_le_pow_right (show 0 < 2 by omega) hk8
    omega
  have sh := wx_shl8 k hk8
  intro d
  induction d with
  | zero =>
    intro X B n hX hn hB hg hb hl
    obtain ⟨n, rfl⟩ : ∃ k, n = k + 1 := ⟨n - 1, by omega⟩
    obtain rfl : X = 2 ^ k := by omega
    have o := wl_ones (show B < 1024 by omega) τ
    refine ⟨B, hB, hg, hl, ?_⟩
    rcases (show q = 0 ∨ q = 1 by omega) with rfl | rfl
    · simp -implicitDefEqProofs (disch := omega) only [e_X12_combs_42, e_X12_combs_42__1, e_X12_combs_42__2, e_X12_combs_42__3, e_X12_combs_42__4, e_X12_combs_42__5, hk, sh, o, wx_bd, wx_let, wx_st, wx_lit, wx_ga, wx_sa, pk_mul, nI_add, wx_le, wx_lt, wx_eq, wx_en, wx_ne', wx_nn, wx_ltn, wx_len, wx_nlt, wx_nle, wx_bz0, wx_bz1, if_pos, if_neg, wx_ite, Nat.reduceEqDiff, eq_self, if_true, if_false, not_true_eq_false, not_false_eq_true]
    · simp -implicitDefEqProofs (disch := omega) only [e_X12_combs_42, e_X12_combs_42__1, e_X12_combs_42__2, e_X12_combs_42__3, e_X12_combs_42__4, e_X12_combs_42__5, hk, sh, wx_bd, wx_let, wx_st, wx_lit, wx_ga, wx_sa, pk_mul, nI_add, wx_le, wx_lt, wx_eq, wx_en, wx_ne', wx_nn, wx_ltn, wx_len, wx_nlt, wx_nle, wx_bz0, wx_bz1, if_pos, if_neg, wx_ite, Nat.reduceEqDiff, eq_self, if_true, if_false, not_true_eq_false, not_false_eq_true]
  | succ d ih =>
    intro X B n hX hn hB hg hb hl
    obtain ⟨n, rfl⟩ : ∃ k, n = k + 1 := ⟨n - 1, by omega⟩
    have o1 := wl_ones (show B < 1024 by omega) τ
    have o2 := wl_ones (show X < 1024 by omega) τ
    have p1 : wh_pc B ≤ 10 := wh_n_le _ 10
    have p2 : wh_pc X ≤ 10 := wh_n_le _ 10
    by_cases c : wh_pc B ≤ wh_pc X
    · obtain ⟨T, t1, t2, t3, t4⟩ := ih (X + 1) B n (by omega) (by omega) hB hg (by omega) (fun S hS gS => by
        by_cases e : S = X
        · subst e
          rcases hb with z | z
          · omega
          · have := wx_pcT k hk8 S (by omega) (by rw [← z]; exact c)
            omega
        · exact hl S (by omega) gS)
      exact ⟨T, t1, t2, t3, by simp -implicitDefEqProofs (disch := omega) only [e_X12_combs_42, e_X12_combs_42__1, e_X12_combs_42__2, e_X12_combs_42__3, e_X12_combs_42__4, e_X12_combs_42__5, e_X12_combs_85, e_X12_combs_85__1, hk, sh, o1, o2, wx_bd, wx_let, wx_st, wx_lit, wx_ga, wx_sa, pk_mul, nI_add, wx_le, wx_lt, wx_eq, wx_en, wx_ne', wx_nn, wx_ltn, wx_len, wx_nlt, wx_nle, wx_bz0, wx_bz1, if_pos, if_neg, wx_ite, Nat.reduceEqDiff, eq_self, if_true, if_false, not_true_eq_false, not_false_eq_true]; exact t4⟩
    · rcases wl_agrees (τ := τ) hw (show X < 256 by omega) hk hk8 with ⟨a, g⟩ | ⟨a, g⟩
      · obtain ⟨T, t1, t2, t3, t4⟩ := ih (X + 1) X n (by omega) (by omega) (by omega) g (by omega) (fun S hS gS => by
          by_cases e : S = X
          · subst e; exact Nat.le_refl _
          · have := hl S (by omega) gS
            omega)
        exact ⟨T, t1, t2, t3, by simp -implicitDefEqProofs (disch := omega) only [e_X12_combs_42, e_X12_combs_42__1, e_X12_combs_42__2, e_X12_combs_42__3, e_X12_combs_42__4, e_X12_combs_42__5, e_X12_combs_85, e_X12_combs_85__1, hk, sh, o1, o2, a, wx_bd, wx_let, wx_st, wx_lit, wx_ga, wx_sa, pk_mul, nI_add, wx_le, wx_lt, wx_eq, wx_en, wx_ne', wx_nn, wx_ltn, wx_len, wx_nlt, wx_nle, wx_bz0, wx_bz1, if_pos, if_neg, wx_ite, Nat.reduceEqDiff, eq_self, if_true, if_false, not_true_eq_false, not_false_eq_true]; exact t4⟩
      · obtain ⟨T, t1, t2, t3, t4⟩ := ih (X + 1) B n (by omega) (by omega) hB hg (by omega) (fun S hS gS => by
          by_cases e : S = X
          · subst e; exact absurd gS g
          · exact hl S (by omega) gS)
        exact ⟨T, t1, t2, t3, by simp -implicitDefEqProofs (disch := omega) only [e_X12_combs_42, e_X12_combs_42__1, e_X12_combs_42__2, e_X12_combs_42__3, e_X12_combs_42__4, e_X12_combs_42__5, e_X12_combs_85, e_X12_combs_85__1, hk, sh, o1, o2, a, wx_bd, wx_let, wx_st, wx_lit, wx_ga, wx_sa, pk_mul, nI_add, wx_le, wx_lt, wx_eq, wx_en, wx_ne', wx_nn, wx_ltn, wx_len, wx_nlt, wx_nle, wx_bz0, wx_bz1, if_pos, if_neg, wx_ite, Nat.reduceEqDiff, eq_self, if_true, if_false, not_true_eq_false, not_false_eq_true]; exact t4⟩
end AG
set_option maxHeartbeats 1000000 in
theorem ws_combs : wp_combs wR := by
  intro σ τ a0 a1 h
  have h := wR_told (nI 0) h
  simp only [e_X12_combs, wx_st, wx_lit]
  generalize wg_u τ 0 0 (nI 0) = τ at h ⊢
  obtain ⟨nw, nj, nc, hX, hY, hP, hI, hD⟩ := wR_X h
  obtain ⟨n1, n2, n3, n4, n5, n6⟩ := id hX.1
  rcases wk_wig (wb_nw hX.2.1) n4 n1 a0 with ⟨c1, c2⟩ | ⟨w, hw, rfl, c1, c2⟩
  · exact ⟨-nI 1, σ, τ, by simp -implicitDefEqProofs (disch := omega) only [e_X11_combs, e_X11_combs__1, e_X11_combs__2, e_X11_combs__3, e_X11_combs__4, c1, wx_bd, wx_let, wx_st, wx_lit, wx_ga, wx_sa, pk_mul, nI_add, wx_le, wx_lt, wx_eq, wx_en, wx_ne', wx_nn, wx_ltn, wx_len, wx_nlt, wx_nle, wx_bz0, wx_bz1, if_pos, if_neg, wx_ite, Nat.reduceEqDiff, eq_self, if_true, if_false, not_true_eq_false, not_false_eq_true], by simp -implicitDefEqProofs (disch := omega) only [e_X12_combs, e_X12_combs__1, e_X12_combs__2, e_X12_combs__3, e_X12_combs__4, e_X12_combs__5, c2, wx_bd, wx_let, wx_st, wx_lit, wx_ga, wx_sa, pk_mul, nI_add, wx_le, wx_lt, wx_eq, wx_en, wx_ne', wx_nn, wx_ltn, wx_len, wx_nlt, wx_nle, wx_bz0, wx_bz1, if_pos, if_neg, wx_ite, Nat.reduceEqDiff, eq_self, if_true, if_false, not_true_eq_false, not_false_eq_true], h⟩
  · rcases wk_in a1 0 1 (by omega) (by omega) with ⟨i1, i2⟩ | ⟨q, -, q1, rfl, i1, i2⟩
    · exact ⟨-nI 1, σ, τ, by simp -implicitDefEqProofs (disch := omega) only [e_X11_combs, e_X11_combs__1, e_X11_combs__2, e_X11_combs__3, e_X11_combs__4, c1, i1, wx_bd, wx_let, wx_st, wx_lit, wx_ga, wx_sa, pk_mul, nI_add, wx_le, wx_lt, wx_eq, wx_en, wx_ne', wx_nn, wx_ltn, wx_len, wx_nlt, wx_nle, wx_bz0, wx_bz1, if_pos, if_neg, wx_ite, Nat.reduceEqDiff, eq_self, if_true, if_false, not_true_eq_false, not_false_eq_true], by simp -implicitDefEqProofs (disch := omega) only [e_X12_combs, e_X12_combs__1, e_X12_combs__2, e_X12_combs__3, e_X12_combs__4, e_X12_combs__5, c2, i2, wx_bd, wx_let, wx_st, wx_lit, wx_ga, wx_sa, pk_mul, nI_add, wx_le, wx_lt, wx_eq, wx_en, wx_ne', wx_nn, wx_ltn, wx_len, wx_nlt, wx_nle, wx_bz0, wx_bz1, if_pos, if_neg, wx_ite, Nat.reduceEqDiff, eq_self, if_true, if_false, not_true_eq_false, not_false_eq_true], h⟩
    · obtain ⟨k, hk8, hk, hru⟩ := wb_k hX.2.1 hw
      have hk' : σ 7 w = nI k := by rw [wb_rules hX.2.1 hw]; exact hk
      have tc := wl_toComb (show w < 8 by omega) hk' hk8
      have h2 : 2 ^ k ≤ 256 := by
        have := Nat.pow_le_pow_right (show 0 < 2 by omega) hk8
        omega
      have hp : 0 < 2 ^ k := Nat.two_pow_pos k
      have full : wGd (fun i => τ 1 (75 + 24 * w + 3 * i)) (fun i => τ 1 (75 + 24 * w + 3 * i + 1)) k (fun i => (2 ^ k - 1).testBit i) := fun i j hi hj q1 q2 => by
        have : (2 ^ k - 1).testBit i = true := by rw [Nat.testBit_two_pow_sub_one]; simpa using hi
        have q1 : (2 ^ k - 1).testBit i = false := q1
        rw [this] at q1
        cases q1
      obtain ⟨T, t1, t2, t3, t4⟩ := wl_combs_l (τ := τ) (show w < 8 by omega) hk hk8 q1 (2 ^ k) 0 (2 ^ k - 1) wg_N (by omega) (by rw [wx_N]; omega) (by omega) full (Or.inr rfl) (fun S hS => by omega)
      have hC : ∀ i, i < k → (fun i => σ 8 (w * 8 + i)) i = (fun i => τ 1 (75 + 24 * w + 3 * i)) i := fun i hi => wb_cause hX.2.1 hw hk hk8 hi
      have hR : ∀ i, i < k → (fun i => σ 9 (w * 8 + i)) i = (fun i => τ 1 (75 + 24 * w + 3 * i + 1)) i := fun i hi => wb_ruling hX.2.1 hw hk hk8 hi
      have gcg : ∀ s, wGd (fun i => σ 8 (w * 8 + i)) (fun i => σ 9 (w * 8 + i)) k s ↔ wGd (fun i => τ 1 (75 + 24 * w + 3 * i)) (fun i => τ 1 (75 + 24 * w + 3 * i + 1)) k s := fun s => by
        have : ∀ i j, i < k → j < i → wIt (fun i => σ 8 (w * 8 + i)) (fun i => σ 9 (w * 8 + i)) i j = wIt (fun i => τ 1 (75 + 24 * w + 3 * i)) (fun i => τ 1 (75 + 24 * w + 3 * i + 1)) i j := fun i j hi hj => by
          unfold wIt
          rw [hC i hi, hC j (by omega), hR i hi, hR j (by omega)]
        constructor
        · intro g i j hi hj a b
          rw [← this i j hi hj]; exact g i j hi hj a b
        · intro g i j hi hj a b
          rw [this i j hi hj]; exact g i j hi hj a b
      have cc : ∀ i, i < k → ∃ c, c < 8 ∧ (fun i => σ 8 (w * 8 + i)) i = nI c := fun i hi => by
        obtain ⟨c, hc, e⟩ := (wb_ru hX.2.1 hw hk hk8 hi).2.2.2.1
        exact ⟨c, hc, (hC i hi).trans e⟩
      have tT : wh_m (wcT (fun i => σ 8 (w * 8 + i)) (fun i => σ 9 (w * 8 + i)) k 8) k = T := by
        have g1 := wcT_gd (R := fun i => σ 9 (w * 8 + i)) cc
        have l1 := wcT_least ((gcg _).2 t2)
        have m8 := wh_m8 (wcT (fun i => σ 8 (w * 8 + i)) (fun i => σ 9 (w * 8 + i)) k 8) hk8
        have ml := wh_m_lt (wcT (fun i => σ 8 (w * 8 + i)) (fun i => σ 9 (w * 8 + i)) k 8) k
        have pm := wh_pc_m (wcT (fun i => σ 8 (w * 8 + i)) (fun i => σ 9 (w * 8 + i)) k 8) (show k ≤ 10 by omega)
        have l2 := t3 _ ml ((gcg _).1 (fun i j hi hj a b => g1 i j hi hj (by
          have a : (wh_m (wcT (fun i => σ 8 (w * 8 + i)) (fun i => σ 9 (w * 8 + i)) k 8) k).testBit i = false := a
          rw [wh_m_bit] at a
          simpa [hi] using a) (by
          have b : (wh_m (wcT (fun i => σ 8 (w * 8 + i)) (fun i => σ 9 (w * 8 + i)) k 8) k).testBit j = false := b
          rw [wh_m_bit] at b
          simpa [show j < k by omega] using b)))
        have pT := wh_pc_m (fun i => T.testBit i) (show k ≤ 10 by omega)
        have sT := wh_m_self t1
        rw [wKy_eq, wKy_eq, sT, ← pm, ← pT, sT] at l1
        omega
      have sh := wx_shl8 k hk8
      have bc := wh_bc_pc T (by omega)
      have sb : nI (2 ^ k) - nI 1 = nI (2 ^ k - 1) := by
        have : ∀ k, k ≤ 8 → nI (2 ^ k) - nI 1 = nI (2 ^ k - 1) := by decide +kernel
        exact this k hk8
      rw [tT] at tc
      rcases (show q = 0 ∨ q = 1 by omega) with rfl | rfl
      · exact ⟨nI (wh_pc T), σ, τ, by simp -implicitDefEqProofs (disch := omega) only [e_X11_combs, e_X11_combs__1, e_X11_combs__2, e_X11_combs__3, e_X11_combs__4, c1, i1, tc, wh_bcC, bc, wx_bd, wx_let, wx_st, wx_lit, wx_ga, wx_sa, pk_mul, nI_add, wx_le, wx_lt, wx_eq, wx_en, wx_ne', wx_nn, wx_ltn, wx_len, wx_nlt, wx_nle, wx_bz0, wx_bz1, if_pos, if_neg, wx_ite, Nat.reduceEqDiff, eq_self, if_true, if_false, not_true_eq_false, not_false_eq_true], by simp -implicitDefEqProofs (disch := omega) only [e_X12_combs, e_X12_combs__1, e_X12_combs__2, e_X12_combs__3, e_X12_combs__4, e_X12_combs__5, c2, i2, hk, sh, sb, t4, wx_bd, wx_let, wx_st, wx_lit, wx_ga, wx_sa, pk_mul, nI_add, wx_le, wx_lt, wx_eq, wx_en, wx_ne', wx_nn, wx_ltn, wx_len, wx_nlt, wx_nle, wx_bz0, wx_bz1, if_pos, if_neg, wx_ite, Nat.reduceEqDiff, eq_self, if_true, if_false, not_true_eq_false, not_false_eq_true], h⟩
      · exact ⟨nI T, σ, τ, by simp -implicitDefEqProofs (disch := omega) only [e_X11_combs, e_X11_combs__1, e_X11_combs__2, e_X11_combs__3, e_X11_combs__4, c1, i1, tc, wx_bd, wx_let, wx_st, wx_lit, wx_ga, wx_sa, pk_mul, nI_add, wx_le, wx_lt, wx_eq, wx_en, wx_ne', wx_nn, wx_ltn, wx_len, wx_nlt, wx_nle, wx_bz0, wx_bz1, if_pos, if_neg, wx_ite, Nat.reduceEqDiff, eq_self, if_true, if_false, not_true_eq_false, not_false_eq_true], by simp -implicitDefEqProofs (disch := omega) only [e_X12_combs, e_X12_combs__1, e_X12_combs__2, e_X12_combs__3, e_X12_combs__4, e_X12_combs__5, c2, i2, hk, sh, sb, t4, wx_bd, wx_let, wx_st, wx_lit, wx_ga, wx_sa, pk_mul, nI_add, wx_le, wx_lt, wx_eq, wx_en, wx_ne', wx_nn, wx_ltn, wx_len, wx_nlt, wx_nle, wx_bz0, wx_bz1, if_pos, if_neg, wx_ite, Nat.reduceEqDiff, eq_self, if_true, if_false, not_true_eq_false, not_false_eq_true], h⟩

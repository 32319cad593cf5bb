/-! the HEIR -/
set_option maxHeartbeats 1000000 in
theorem wx_bit10 : ∀ S, S < 1024 → ∀ a, a < 10 → (nI S >>> (nI a &&& nI 31)) &&& nI 1 = if S.testBit a = true then nI 1 else nI 0 := by decide +kernel
section HE
variable {σ t : wg_M} {nj G : Nat}
set_option maxHeartbeats 1000000 in
theorem wl_yg (hG : G < 1024) (hnj : nj ≤ 10) (e5 : σ 11 5 = nI nj) (n5 : t 0 7 = nI nj) (hE : ∀ j, j < nj → ((t 1 (23 + j) = nI 0 ∧ t 1 (13 + j) = nI 0) ↔ (σ 15 j = nI 0 ∧ σ 14 j = -nI 1 ∧ G.testBit j = false))) (hA : ∀ j, j < nj → σ 12 j = t 1 (3 + j)) : ∀ d i n m x, i + d = nj → d < n → d < m → (x = -nI 1 ∨ ∃ b, b < nj ∧ (t 1 (23 + b) = nI 0 ∧ t 1 (13 + b) = nI 0) ∧ x = nI b) → ∃ r, f_X2_youngestBare_4 n 11 (nI G) x (nI i) σ = some (r, σ) ∧ f_X12_youngest_4 m 0 x (nI i) t = some (r, t) ∧ (r = -nI 1 ∨ ∃ b, b < nj ∧ (t 1 (23 + b) = nI 0 ∧ t 1 (13 + b) = nI 0) ∧ r = nI b) := by
  have em : nI 0 - nI 1 = -nI 1 := by decide
  have h01 : ¬ nI 1 = nI 0 := by decide
  intro d
  induction d with
  | zero =>
    intro i n m x hi hn hm hx
    obtain ⟨n, rfl⟩ : ∃ k, n = k + 1 := ⟨n - 1, by omega⟩
    obtain ⟨m, rfl⟩ : ∃ k, m = k + 1 := ⟨m - 1, by omega⟩
    refine ⟨x, ?_, ?_, hx⟩
    · simp -implicitDefEqProofs (disch := omega) only [e_X2_youngestBare_4, e_X2_youngestBare_4__1, e_X2_youngestBare_4__2, e5, wx_bd, wx_let, wx_st, wx_lit, wx_ga, wx_sa, pk_mul, nI_add, wx_le, wx_lt, wx_eq, wx_en, wx_ne', wx_nn, wx_ltn, wx_len, wx_nlt, wx_nle, wx_bz0, wx_bz1, if_pos, if_neg, wx_ite, Nat.reduceEqDiff, eq_self, if_true, if_false, not_true_eq_false, not_false_eq_true]
    · simp -implicitDefEqProofs (disch := omega) only [e_X12_youngest_4, e_X12_youngest_4__1, e_X12_youngest_4__2, e_X12_youngest_4__3, e_X12_youngest_4__4, n5, wx_bd, wx_let, wx_st, wx_lit, wx_ga, wx_sa, pk_mul, nI_add, wx_le, wx_lt, wx_eq, wx_en, wx_ne', wx_nn, wx_ltn, wx_len, wx_nlt, wx_nle, wx_bz0, wx_bz1, if_pos, if_neg, wx_ite, Nat.reduceEqDiff, eq_self, if_true, if_false, not_true_eq_false, not_false_eq_true]
  | succ d ih =>
    intro i n m x hi hn hm hx
    obtain ⟨n, rfl⟩ : ∃ k, n = k + 1 := ⟨n - 1, by omega⟩
    obtain ⟨m, rfl⟩ : ∃ k, m = k + 1 := ⟨m - 1, by omega⟩
    have hij : i < nj := by omega
    have bt := wx_bit10 G hG i (by omega)
    have e12 := hA i hij
    by_cases cE : t 1 (23 + i) = nI 0 ∧ t 1 (13 + i) = nI 0
    · obtain ⟨g1, g2, g3⟩ := (hE i hij).mp cE
      obtain ⟨c1, c2⟩ := id cE
      rw [if_neg (by rw [g3]; simp)] at bt
      have take := ih (i + 1) n m (nI i) (by omega) (by omega) (by omega) (Or.inr ⟨i, hij, cE, rfl⟩)
      rcases hx with rfl | ⟨b, hb, hbE, rfl⟩
      · obtain ⟨r, r1, r2, r3⟩ := take
        refine ⟨r, ?_, ?_, r3⟩
        · simp -implicitDefEqProofs (disch := omega) only [e_X2_youngestBare_4, e_X2_youngestBare_4__1, e_X2_youngestBare_4__2, e_X2_youngestBare_44, e_X2_youngestBare_44__1, e_X2_youngestBare_44__2, e_X2_youngestBare_71, e_X2_youngestBare_73, e_X2_youngestBare_73__1, e5, g1, g2, bt, wx_bd, wx_let, wx_st, wx_lit, wx_ga, wx_sa, pk_mul, nI_add, wx_le, wx_lt, wx_eq, wx_en, wx_ne', wx_nn, wx_ltn, wx_len, wx_nlt, wx_nle, wx_bz0, wx_bz1, if_pos, if_neg, wx_ite, Nat.reduceEqDiff, eq_self, if_true, if_false, not_true_eq_false, not_false_eq_true]
          exact r1
        · simp -implicitDefEqProofs (disch := omega) only [e_X12_youngest_4, e_X12_youngest_4__1, e_X12_youngest_4__2, e_X12_youngest_4__3, e_X12_youngest_4__4, e_X12_youngest_53, e_X12_youngest_55, e_X12_youngest_55__1, e_X12_isAlive, e_X12_isAlive__1, e_X12_wigOf, e_X12_wigOf__1, n5, c1, c2, em, wx_bd, wx_let, wx_st, wx_lit, wx_ga, wx_sa, pk_mul, nI_add, wx_le, wx_lt, wx_eq, wx_en, wx_ne', wx_nn, wx_ltn, wx_len, wx_nlt, wx_nle, wx_bz0, wx_bz1, if_pos, if_neg, wx_ite, Nat.reduceEqDiff, eq_self, if_true, if_false, not_true_eq_false, not_false_eq_true]
          exact r2
      · have skip := ih (i + 1) n m (nI b) (by omega) (by omega) (by omega) (Or.inr ⟨b, hb, hbE, rfl⟩)
        have e12b := hA b hb
        by_cases ca : t 1 (3 + b) ≤ t 1 (3 + i)
        · obtain ⟨r, r1, r2, r3⟩ := skip
          refine ⟨r, ?_, ?_, r3⟩
          · simp -implicitDefEqProofs (disch := omega) only [e_X2_youngestBare_4, e_X2_youngestBare_4__1, e_X2_youngestBare_4__2, e_X2_youngestBare_44, e_X2_youngestBare_44__1, e_X2_youngestBare_44__2, e_X2_youngestBare_71, e_X2_youngestBare_73, e_X2_youngestBare_73__1, e5, g1, g2, e12, e12b, bt, ca, wx_bd, wx_let, wx_st, wx_lit, wx_ga, wx_sa, pk_mul, nI_add, wx_le, wx_lt, wx_eq, wx_en, wx_ne', wx_nn, wx_ltn, wx_len, wx_nlt, wx_nle, wx_bz0, wx_bz1, if_pos, if_neg, wx_ite, Nat.reduceEqDiff, eq_self, if_true, if_false, not_true_eq_false, not_false_eq_true]
            exact r1
          · simp -implicitDefEqProofs (disch := omega) only [e_X12_youngest_4, e_X12_youngest_4__1, e_X12_youngest_4__2, e_X12_youngest_4__3, e_X12_youngest_4__4, e_X12_youngest_53, e_X12_youngest_55, e_X12_youngest_55__1, e_X12_isAlive, e_X12_isAlive__1, e_X12_wigOf, e_X12_wigOf__1, n5, c1, c2, em, ca, wx_bd, wx_let, wx_st, wx_lit, wx_ga, wx_sa, pk_mul, nI_add, wx_le, wx_lt, wx_eq, wx_en, wx_ne', wx_nn, wx_ltn, wx_len, wx_nlt, wx_nle, wx_bz0, wx_bz1, if_pos, if_neg, wx_ite, Nat.reduceEqDiff, eq_self, if_true, if_false, not_true_eq_false, not_false_eq_true]
            exact r2
        · obtain ⟨r, r1, r2, r3⟩ := take
          refine ⟨r, ?_, ?_, r3⟩
          · simp -implicitDefEqProofs (disch := omega) only [e_X2_youngestBare_4, e_X2_youngestBare_4__1, e_X2_youngestBare_4__2, e_X2_youngestBare_44, e_X2_youngestBare_44__1, e_X2_youngestBare_44__2, e_X2_youngestBare_71, e_X2_youngestBare_73, e_X2_youngestBare_73__1, e5, g1, g2, e12, e12b, bt, ca, wx_bd, wx_let, wx_st, wx_lit, wx_ga, wx_sa, pk_mul, nI_add, wx_le, wx_lt, wx_eq, wx_en, wx_ne', wx_nn, wx_ltn, wx_len, wx_nlt, wx_nle, wx_bz0, wx_bz1, if_pos, if_neg, wx_ite, Nat.reduceEqDiff, eq_self, if_true, if_false, not_true_eq_false, not_false_eq_true]
            exact r1
          · simp -implicitDefEqProofs (disch := omega) only [e_X12_youngest_4, e_X12_youngest_4__1, e_X12_youngest_4__2, e_X12_youngest_4__3, e_X12_youngest_4__4, e_X12_youngest_53, e_X12_youngest_55, e_X12_youngest_55__1, e_X12_isAlive, e_X12_isAlive__1, e_X12_wigOf, e_X12_wigOf__1, n5, c1, c2, em, ca, wx_bd, wx_let, wx_st, wx_lit, wx_ga, wx_sa, pk_mul, nI_add, wx_le, wx_lt, wx_eq, wx_en, wx_ne', wx_nn, wx_ltn, wx_len, wx_nlt, wx_nle, wx_bz0, wx_bz1, if_pos, if_neg, wx_ite, Nat.reduceEqDiff, eq_self, if_true, if_false, not_true_eq_false, not_false_eq_true]
            exact r2
    · obtain ⟨r, r1, r2, r3⟩ := ih (i + 1) n m x (by omega) (by omega) (by omega) hx
      refine ⟨r, ?_, ?_, r3⟩
      · have nE : ¬ (σ 15 i = nI 0 ∧ σ 14 i = -nI 1 ∧ G.testBit i = false) := fun q => cE ((hE i hij).mpr q)
        by_cases g1 : σ 15 i = nI 0
        · by_cases g2 : σ 14 i = -nI 1
          · have g3 : G.testBit i = true := by
              cases hb : G.testBit i with
              | true => rfl
              | false => exact absurd ⟨g1, g2, hb⟩ nE
            rw [if_pos g3] at bt
            simp -implicitDefEqProofs (disch := omega) only [e_X2_youngestBare_4, e_X2_youngestBare_4__1, e_X2_youngestBare_4__2, e_X2_youngestBare_43, e_X2_youngestBare_44, e_X2_youngestBare_44__1, e_X2_youngestBare_44__2, e_X2_youngestBare_73, e_X2_youngestBare_73__1, e5, g1, g2, bt, h01, wx_bd, wx_let, wx_st, wx_lit, wx_ga, wx_sa, pk_mul, nI_add, wx_le, wx_lt, wx_eq, wx_en, wx_ne', wx_nn, wx_ltn, wx_len, wx_nlt, wx_nle, wx_bz0, wx_bz1, if_pos, if_neg, wx_ite, Nat.reduceEqDiff, eq_self, if_true, if_false, not_true_eq_false, not_false_eq_true]
            exact r1
          · simp -implicitDefEqProofs (disch := omega) only [e_X2_youngestBare_4, e_X2_youngestBare_4__1, e_X2_youngestBare_4__2, e_X2_youngestBare_43, e_X2_youngestBare_44, e_X2_youngestBare_44__1, e_X2_youngestBare_44__2, e_X2_youngestBare_73, e_X2_youngestBare_73__1, e5, g1, g2, wx_bd, wx_let, wx_st, wx_lit, wx_ga, wx_sa, pk_mul, nI_add, wx_le, wx_lt, wx_eq, wx_en, wx_ne', wx_nn, wx_ltn, wx_len, wx_nlt, wx_nle, wx_bz0, wx_bz1, if_pos, if_neg, wx_ite, Nat.reduceEqDiff, eq_self, if_true, if_false, not_true_eq_false, not_false_eq_true]
            exact r1
        · simp -implicitDefEqProofs (disch := omega) only [e_X2_youngestBare_4, e_X2_youngestBare_4__1, e_X2_youngestBare_4__2, e_X2_youngestBare_43, e_X2_youngestBare_44, e_X2_youngestBare_44__1, e_X2_youngestBare_44__2, e_X2_youngestBare_73, e_X2_youngestBare_73__1, e5, g1, wx_bd, wx_let, wx_st, wx_lit, wx_ga, wx_sa, pk_mul, nI_add, wx_le, wx_lt, wx_eq, wx_en, wx_ne', wx_nn, wx_ltn, wx_len, wx_nlt, wx_nle, wx_bz0, wx_bz1, if_pos, if_neg, wx_ite, Nat.reduceEqDiff, eq_self, if_true, if_false, not_true_eq_false, not_false_eq_true]
          exact r1
      · by_cases c1 : t 1 (23 + i) = nI 0
        · have c2 : ¬ t 1 (13 + i) - nI 1 = -nI 1 := fun q => cE ⟨c1, by rw [← Int32.sub_add_cancel (a := t 1 (13 + i)) (b := nI 1), q]; decide⟩
          simp -implicitDefEqProofs (disch := omega) only [e_X12_youngest_4, e_X12_youngest_4__1, e_X12_youngest_4__2, e_X12_youngest_4__3, e_X12_youngest_4__4, e_X12_youngest_55, e_X12_youngest_55__1, e_X12_isAlive, e_X12_isAlive__1, e_X12_wigOf, e_X12_wigOf__1, n5, c1, c2, wx_bd, wx_let, wx_st, wx_lit, wx_ga, wx_sa, pk_mul, nI_add, wx_le, wx_lt, wx_eq, wx_en, wx_ne', wx_nn, wx_ltn, wx_len, wx_nlt, wx_nle, wx_bz0, wx_bz1, if_pos, if_neg, wx_ite, Nat.reduceEqDiff, eq_self, if_true, if_false, not_true_eq_false, not_false_eq_true]
          exact r2
        · simp -implicitDefEqProofs (disch := omega) only [e_X12_youngest_4, e_X12_youngest_4__1, e_X12_youngest_4__2, e_X12_youngest_4__3, e_X12_youngest_4__4, e_X12_youngest_55, e_X12_youngest_55__1, e_X12_isAlive, e_X12_isAlive__1, n5, c1, wx_bd, wx_let, wx_st, wx_lit, wx_ga, wx_sa, pk_mul, nI_add, wx_le, wx_lt, wx_eq, wx_en, wx_ne', wx_nn, wx_ltn, wx_len, wx_nlt, wx_nle, wx_bz0, wx_bz1, if_pos, if_neg, wx_ite, Nat.reduceEqDiff, eq_self, if_true, if_false, not_true_eq_false, not_false_eq_true]
          exact r2
set_option maxHeartbeats 1000000 in
/-- who wears a WIG, told by the reference alone -/
theorem wl_wr (hnj : nj ≤ 10) (n5 : t 0 7 = nI nj) {w : Nat} (hw : w < 8) {o : Option Nat} (ho : ∀ j, j < nj → (t 1 (13 + j) = nI (w + 1) ↔ o = some j)) (ho2 : ∀ j, o = some j → j < nj) : f_X12_wearerOf 0 (nI w) t = some (wEn o, t) := by
  have key : ∀ d i m, i + d = nj → d < m → (∀ j, o = some j → i ≤ j) → f_X12_wearerOf_2 m 0 (nI w) (nI i) t = some (wEn o, t) := by
    intro d
    induction d with
    | zero =>
      intro i m hi hm hl
      obtain ⟨m, rfl⟩ : ∃ k, m = k + 1 := ⟨m - 1, by omega⟩
      cases o with
      | none => simp -implicitDefEqProofs (disch := omega) only [e_X12_wearerOf_2, e_X12_wearerOf_2__1, e_X12_wearerOf_2__2, n5, wEn, wx_bd, wx_let, wx_st, wx_lit, wx_ga, wx_sa, pk_mul, nI_add, wx_le, wx_lt, wx_eq, wx_en, wx_ne', wx_nn, wx_ltn, wx_len, wx_nlt, wx_nle, wx_bz0, wx_bz1, if_pos, if_neg, wx_ite, Nat.reduceEqDiff, eq_self, if_true, if_false, not_true_eq_false, not_false_eq_true]
      | some j =>
        have := hl j rfl
        have := ho2 j rfl
        omega
    | succ d ih =>
      intro i m hi hm hl
      obtain ⟨m, rfl⟩ : ∃ k, m = k + 1 := ⟨m - 1, by omega⟩
      by_cases c : t 1 (13 + i) = nI (w + 1)
      · have e := (ho i (by omega)).mp c
        subst e
        have es : nI (w + 1) - nI 1 = nI w := pk_sub (by omega)
        simp -implicitDefEqProofs (disch := omega) only [e_X12_wearerOf_2, e_X12_wearerOf_2__1, e_X12_wearerOf_2__2, e_X12_wigOf, e_X12_wigOf__1, n5, c, es, wEn, wx_bd, wx_let, wx_st, wx_lit, wx_ga, wx_sa, pk_mul, nI_add, wx_le, wx_lt, wx_eq, wx_en, wx_ne', wx_nn, wx_ltn, wx_len, wx_nlt, wx_nle, wx_bz0, wx_bz1, if_pos, if_neg, wx_ite, Nat.reduceEqDiff, eq_self, if_true, if_false, not_true_eq_false, not_false_eq_true]
      · have c2 : ¬ t 1 (13 + i) - nI 1 = nI w := fun q => c (by rw [← Int32.sub_add_cancel (a := t 1 (13 + i)) (b := nI 1), q, nI_add])
        have q := ih (i + 1) m (by omega) (by omega) (fun j e => by
          have h1 := hl j e
          rcases Nat.lt_or_ge i j with q | q
          · omega
          · have : i = j := by omega
            subst this
            exact absurd ((ho i (by omega)).mpr e) c)
        simp -implicitDefEqProofs (disch := omega) only [e_X12_wearerOf_2, e_X12_wearerOf_2__1, e_X12_wearerOf_2__2, e_X12_wigOf, e_X12_wigOf__1, n5, c2, wx_bd, wx_let, wx_st, wx_lit, wx_ga, wx_sa, pk_mul, nI_add, wx_le, wx_lt, wx_eq, wx_en, wx_ne', wx_nn, wx_ltn, wx_len, wx_nlt, wx_nle, wx_bz0, wx_bz1, if_pos, if_neg, wx_ite, Nat.reduceEqDiff, eq_self, if_true, if_false, not_true_eq_false, not_false_eq_true]
        exact q
  exact key nj 0 wg_N (by omega) (by rw [wx_N]; omega) (fun _ _ => by omega)
end HE

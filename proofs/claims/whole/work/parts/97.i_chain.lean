section MR
variable {A C : Nat → Nat} {n : Nat} {σ0 : wg_M}
def wLb (σ : wg_M) (v : Nat → Nat) : Prop := ∀ x, x < 14 → σ 58 x = nI (v x)
set_option maxHeartbeats 1000000 in
theorem wl_mr20 (hn : n ≤ 16) (e6 : σ0 49 6 = nI n) (hA : ∀ i, i < n → σ0 53 i = nI (A i) ∧ A i < 14 ∧ σ0 54 i = nI (C i) ∧ C i < 14) (k10 : Nat → Int32 → wg_M → Option (Int32 × wg_M)) {r M : Nat} (hr : r < 14) (hM : M < 100000) : ∀ d i f v σ z, i + d = n → d < f → z ≤ 1 → (∀ a, a ≠ 58 → σ a = σ0 a) → wLb σ v → (∀ x, x < 14 → v x + d ≤ M) → ∃ σ', (∀ a, a ≠ 58 → σ' a = σ0 a) ∧ wLb σ' (wsw A C d i v) ∧ ((z = 0 ∧ (∀ k, i ≤ k → k < n → v (C k) < v (A k)) ∧ f_X8_measureRows_20 k10 f 49 (nI r) (nI z) (nI i) σ = some (nI 1, σ')) ∨ ((z = 1 ∨ ∃ k, i ≤ k ∧ k < n ∧ ¬ v (C k) < v (A k)) ∧ f_X8_measureRows_20 k10 f 49 (nI r) (nI z) (nI i) σ = k10 49 (nI (r + 1)) σ')) := by
  intro d
  induction d with
  | zero =>
    intro i f v σ z hi hf hz hs hL hb
    obtain ⟨f, rfl⟩ : ∃ k, f = k + 1 := ⟨f - 1, by omega⟩
    have e : σ 49 6 = nI n := by rw [hs 49 (by omega)]; exact e6
    refine ⟨σ, hs, hL, ?_⟩
    rcases (show z = 0 ∨ z = 1 by omega) with rfl | rfl
    · exact Or.inl ⟨rfl, fun k h1 h2 => by omega, by simp -implicitDefEqProofs (disch := omega) only [e_X8_measureRows_20, e_X8_measureRows_20__1, e_X8_measureRows_20__2, e_X8_measureRows_20__3, e_X8_measureRows_20__4, e_X8_measureRows_20__5, e_X8_measureRows_20__6, e_X8_measureRows_20__7, e_X8_measureRows_20__8, e_X8_measureRows_20__9, e, wx_bd, wx_let, wx_st, wx_lit, wx_ga, wx_sa, pk_mul, nI_add, wx_le, wx_lt, wx_eq, wx_en, wx_ne', wx_nn, wx_ltn, wx_len, wx_nlt, wx_nle, wx_bz0, wx_bz1, if_pos, if_neg, wx_ite, Nat.reduceEqDiff, eq_self, if_true, if_false, not_true_eq_false, not_false_eq_true]⟩
    · exact Or.inr ⟨Or.inl rfl, by simp -implicitDefEqProofs (disch := omega) only [e_X8_measureRows_20, e_X8_measureRows_20__1, e_X8_measureRows_20__2, e_X8_measureRows_20__3, e_X8_measureRows_20__4, e_X8_measureRows_20__5, e_X8_measureRows_20__6, e_X8_measureRows_20__7, e_X8_measureRows_20__8, e_X8_measureRows_20__9, e, wx_bd, wx_let, wx_st, wx_lit, wx_ga, wx_sa, pk_mul, nI_add, wx_le, wx_lt, wx_eq, wx_en, wx_ne', wx_nn, wx_ltn, wx_len, wx_nlt, wx_nle, wx_bz0, wx_bz1, if_pos, if_neg, wx_ite, Nat.reduceEqDiff, eq_self, if_true, if_false, not_true_eq_false, not_false_eq_true]⟩
  | succ d ih =>
    intro i f v σ z hi hf hz hs hL hb
    obtain ⟨f, rfl⟩ : ∃ k, f = k + 1 := ⟨f - 1, by omega⟩
    have e : σ 49 6 = nI n := by rw [hs 49 (by omega)]; exact e6
    obtain ⟨a1, a2, a3, a4⟩ := hA i (by omega)
    rw [← hs 53 (by omega)] at a1
    rw [← hs 54 (by omega)] at a3
    have l1 := hL _ a2
    have l2 := hL _ a4
    have b1 := hb _ a2
    have b2 := hb _ a4
    by_cases c : v (C i) < v (A i)
    · obtain ⟨σ', g1, g2, g3⟩ := ih (i + 1) f v σ z (by omega) (by omega) hz hs hL (fun x hx => by have := hb x hx; omega)
      have es : wsw A C (d + 1) i v = wsw A C d (i + 1) v := by
        show wsw A C d (i + 1) (wsp A C v i) = _
        rw [wsp_id c]
      have st : f_X8_measureRows_20 k10 (f + 1) 49 (nI r) (nI z) (nI i) σ = f_X8_measureRows_20 k10 f 49 (nI r) (nI z) (nI (i + 1)) σ := by
        simp -implicitDefEqProofs (disch := omega) only [e_X8_measureRows_20, e_X8_measureRows_20__1, e_X8_measureRows_20__2, e_X8_measureRows_20__3, e_X8_measureRows_20__4, e_X8_measureRows_20__5, e_X8_measureRows_20__6, e_X8_measureRows_20__7, e_X8_measureRows_20__8, e_X8_measureRows_20__9, e_X8_measureRows_79, e_X8_measureRows_79__1, e, a1, a3, l1, l2, wx_bd, wx_let, wx_st, wx_lit, wx_ga, wx_sa, pk_mul, nI_add, wx_le, wx_lt, wx_eq, wx_en, wx_ne', wx_nn, wx_ltn, wx_len, wx_nlt, wx_nle, wx_bz0, wx_bz1, if_pos, if_neg, wx_ite, Nat.reduceEqDiff, eq_self, if_true, if_false, not_true_eq_false, not_false_eq_true]
      rw [es, st]
      refine ⟨σ', g1, g2, ?_⟩
      rcases g3 with ⟨q1, q2, q3⟩ | ⟨q1, q3⟩
      · refine Or.inl ⟨q1, fun k h1 h2 => ?_, q3⟩
        by_cases ek : k = i
        · subst ek; exact c
        · exact q2 k (by omega) h2
      · refine Or.inr ⟨?_, q3⟩
        rcases q1 with q | ⟨k, h1, h2, h3⟩
        · exact Or.inl q
        · exact Or.inr ⟨k, by omega, h2, h3⟩
    · have hL1 : wLb (wg_u σ 58 (A i) (nI (v (C i) + 1))) (wsp A C v i) := fun x hx => by
        unfold wsp
        rw [if_neg c, wx_uk]
        by_cases cx : x = A i
        · subst cx; rw [pk_us, if_pos rfl]
        · rw [pk_un cx, if_neg cx]; exact hL x hx
      obtain ⟨σ', g1, g2, g3⟩ := ih (i + 1) f (wsp A C v i) (wg_u σ 58 (A i) (nI (v (C i) + 1))) 1 (by omega) (by omega) (by omega) (fun a ha => by rw [wx_un ha]; exact hs a ha) hL1 (fun x hx => by
        have := hb x hx
        unfold wsp
        split
        · omega
        · split <;> omega)
      have st : f_X8_measureRows_20 k10 (f + 1) 49 (nI r) (nI z) (nI i) σ = f_X8_measureRows_20 k10 f 49 (nI r) (nI 1) (nI (i + 1)) (wg_u σ 58 (A i) (nI (v (C i) + 1))) := by
        simp -implicitDefEqProofs (disch := omega) only [e_X8_measureRows_20, e_X8_measureRows_20__1, e_X8_measureRows_20__2, e_X8_measureRows_20__3, e_X8_measureRows_20__4, e_X8_measureRows_20__5, e_X8_measureRows_20__6, e_X8_measureRows_20__7, e_X8_measureRows_20__8, e_X8_measureRows_20__9, e_X8_measureRows_79, e_X8_measureRows_79__1, e, a1, a3, l1, l2, wx_bd, wx_let, wx_st, wx_lit, wx_ga, wx_sa, pk_mul, nI_add, wx_le, wx_lt, wx_eq, wx_en, wx_ne', wx_nn, wx_ltn, wx_len, wx_nlt, wx_nle, wx_bz0, wx_bz1, if_pos, if_neg, wx_ite, Nat.reduceEqDiff, eq_self, if_true, if_false, not_true_eq_false, not_false_eq_true]
      rw [st]
      refine ⟨σ', g1, g2, ?_⟩
      rcases g3 with ⟨q1, -, -⟩ | ⟨-, q3⟩
      · omega
      · exact Or.inr ⟨Or.inr ⟨i, Nat.le_refl _, by omega, c⟩, q3⟩
end MR

section MS
variable {A C : Nat → Nat} {n : Nat} {σ0 : wg_M}
set_option maxHeartbeats 1000000 in
theorem wsw_bd : ∀ d i B v, (∀ x, v x ≤ B) → ∀ x, wsw A C d i v x ≤ B + d
  | 0, _, _, _, h => h
  | d + 1, i, B, v, h => by
    intro x
    have := wsw_bd d (i + 1) (B + 1) (wsp A C v i) (fun y => by
      have h1 := h y
      have h2 := h (C i)
      unfold wsp
      split
      · omega
      · split <;> omega) x
    show wsw A C d (i + 1) (wsp A C v i) x ≤ B + (d + 1)
    omega
set_option maxHeartbeats 1000000 in
theorem wl_mr10 (hn : n ≤ 16) (e6 : σ0 49 6 = nI n) (hA : ∀ i, i < n → σ0 53 i = nI (A i) ∧ A i < 14 ∧ σ0 54 i = nI (C i) ∧ C i < 14) : ∀ d r f v σ, r + d = 14 → d < f → (∀ a, a ≠ 58 → σ a = σ0 a) → wLb σ v → (∀ x, v x ≤ 1 + 16 * r) → wsr A C n v → ∃ σ' b v', b ≤ 1 ∧ f_X8_measureRows_10 f 49 (nI r) σ = some (nI b, σ') ∧ (∀ a, a ≠ 58 → σ' a = σ0 a) ∧ (b = 1 → wLb σ' v' ∧ wsr A C n v' ∧ ∀ k, k < n → v' (C k) < v' (A k)) ∧ ∀ u : Nat → Nat, r < 14 → (∀ k, k < n → u (C k) < u (A k)) → (∀ x, x < 14 → u x ≤ 14) → (∀ x, x < 14 → u x = 1 ∨ ∃ k, k < n ∧ A k = x ∧ u x = u (C k) + 1) → (∀ x, v x ≤ u x) → (∀ x, x < 14 → u x ≤ r + 1 → v x = u x) → b = 1 := by
  intro d
  induction d with
  | zero =>
    intro r f v σ hr hf hs hL hb hw
    obtain ⟨f, rfl⟩ : ∃ k, f = k + 1 := ⟨f - 1, by omega⟩
    refine ⟨σ, 0, v, by omega, by simp -implicitDefEqProofs (disch := omega) only [e_X8_measureRows_10, wx_bd, wx_let, wx_st, wx_lit, wx_ga, wx_sa, pk_mul, nI_add, wx_le, wx_lt, wx_eq, wx_en, wx_ne', wx_nn, wx_ltn, wx_len, wx_nlt, wx_nle, wx_bz0, wx_bz1, if_pos, if_neg, wx_ite, Nat.reduceEqDiff, eq_self, if_true, if_false, not_true_eq_false, not_false_eq_true], hs, fun q => by omega, fun u q => by omega⟩
  | succ d ih =>
    intro r f v σ hr hf hs hL hb hw
    obtain ⟨f, rfl⟩ : ∃ k, f = k + 1 := ⟨f - 1, by omega⟩
    obtain ⟨s1, g1, g2, g3⟩ := wl_mr20 (A := A) (C := C) hn e6 hA (f_X8_measureRows_10 f) (r := r) (M := 17 + 16 * r) (by omega) (by omega) n 0 wg_N v σ 0 (by omega) (by rw [wx_N]; omega) (by omega) hs hL (fun x _ => by have := hb x; omega)
    have st : f_X8_measureRows_10 (f + 1) 49 (nI r) σ = f_X8_measureRows_20 (f_X8_measureRows_10 f) wg_N 49 (nI r) (nI 0) (nI 0) σ := by
      simp -implicitDefEqProofs (disch := omega) only [e_X8_measureRows_10, wx_bd, wx_let, wx_st, wx_lit, wx_ga, wx_sa, pk_mul, nI_add, wx_le, wx_lt, wx_eq, wx_en, wx_ne', wx_nn, wx_ltn, wx_len, wx_nlt, wx_nle, wx_bz0, wx_bz1, if_pos, if_neg, wx_ite, Nat.reduceEqDiff, eq_self, if_true, if_false, not_true_eq_false, not_false_eq_true]
    rw [st]
    rcases g3 with ⟨-, q2, q3⟩ | ⟨q1, q3⟩
    · rw [wsw_id n 0 v (fun k h1 h2 => q2 k h1 (by omega))] at g2
      exact ⟨s1, 1, v, by omega, q3, g1, fun _ => ⟨g2, hw, fun k hk => q2 k (by omega) hk⟩, fun _ _ _ _ _ _ _ => rfl⟩
    · obtain ⟨s2, b, v', k1, k2, k3, k4, k5⟩ := ih (r + 1) f (wsw A C n 0 v) s1 (by omega) (by omega) g1 g2 (fun x => by have := wsw_bd (A := A) (C := C) n 0 _ v hb x; omega) (wsr_sw n 0 v (by omega) hw)
      refine ⟨s2, b, v', k1, by rw [q3]; exact k2, k3, k4, fun u hr14 u1 u2 u3 u4 u5 => ?_⟩
      have hlt : r + 1 < 14 := by
        rcases Nat.lt_or_ge (r + 1) 14 with q | q
        · exact q
        · rcases q1 with q' | ⟨k, -, hk, hnk⟩
          · omega
          · obtain ⟨-, a2, -, a4⟩ := hA k hk
            have e1 := u5 (A k) a2 (by have := u2 (A k) a2; omega)
            have e2 := u5 (C k) a4 (by have := u2 (C k) a4; omega)
            have := u1 k hk
            omega
      have below := wsw_below (A := A) (C := C) (u := u) n 0 v (fun k _ hk => u1 k (by omega)) u4
      refine k5 u hlt u1 u2 u3 below (fun x hx hux => ?_)
      have hb1 := below x
      have hm := wsw_mono (A := A) (C := C) n 0 v x
      by_cases c : u x ≤ r + 1
      · have := u5 x hx c
        omega
      · rcases u3 x hx with q | ⟨k, hk, ek, eu⟩
        · omega
        · obtain ⟨-, a2, -, a4⟩ := hA k hk
          have e2 := u5 (C k) a4 (by omega)
          have hh := wsw_hit (A := A) (C := C) n 0 v k (by omega) (by omega)
          rw [ek] at hh
          omega
end MS

set_option maxHeartbeats 1000000 in
theorem wSt_cg {E E' : Nat → Nat → Prop} {v : Nat → Nat} (hE : ∀ a c, a < 14 → c < 14 → (E a c ↔ E' a c)) (h : wSt E v) : wSt E' v :=
  ⟨fun a c ha hc q => h.1 a c ha hc ((hE a c ha hc).2 q), fun a ha => (h.2 a ha).imp id (fun ⟨p, c, hc, q, r⟩ => ⟨p, c, hc, (hE a c ha hc).1 q, r⟩)⟩
set_option maxHeartbeats 1000000 in
theorem wl_mr {σ : wg_M} {n : Nat} {A C : Nat → Nat} (hn : n ≤ 16) (e6 : σ 49 6 = nI n) (hA : ∀ i, i < n → σ 53 i = nI (A i) ∧ A i < 14 ∧ σ 54 i = nI (C i) ∧ C i < 14) : ∃ b σ' v', b ≤ 1 ∧ f_X8_measureRows 49 σ = some (nI b, σ') ∧ (∀ a, a ≠ 58 → σ' a = σ a) ∧ (b = 1 → wLb σ' v' ∧ wSt (fun a c => ∃ k, k < n ∧ A k = a ∧ C k = c) v') ∧ ∀ u, wSt (fun a c => ∃ k, k < n ∧ A k = a ∧ C k = c) u → b = 1 := by
  obtain ⟨s, f1, f2, f3⟩ := wl_fill 58 (by decide) (nI 1) σ
  obtain ⟨σ', b, v', k1, k2, k3, k4, k5⟩ := wl_mr10 (A := A) (C := C) hn e6 hA 14 0 wg_N (fun _ => 1) s (by omega) (by rw [wx_N]; omega) f2 (fun x hx => f3 x hx) (fun _ => by omega) (fun _ => Or.inl rfl)
  refine ⟨b, σ', v', k1, ?_, k3, fun q => ?_, fun u hu => ?_⟩
  · simp -implicitDefEqProofs (disch := omega) only [e_X8_measureRows, e_X8_measureRows__1, f1, wx_bd, wx_let, wx_st, wx_lit, wx_ga, wx_sa, pk_mul, nI_add, wx_le, wx_lt, wx_eq, wx_en, wx_ne', wx_nn, wx_ltn, wx_len, wx_nlt, wx_nle, wx_bz0, wx_bz1, if_pos, if_neg, wx_ite, Nat.reduceEqDiff, eq_self, if_true, if_false, not_true_eq_false, not_false_eq_true]
    exact k2
  · obtain ⟨p1, p2, p3⟩ := k4 q
    refine ⟨p1, fun a c ha hc ⟨k, hk, e1, e2⟩ => ?_, fun a ha => ?_⟩
    · rw [← e1, ← e2]; exact p3 k hk
    · rcases p2 a with z | ⟨z1, k, hk, e1, z2⟩
      · exact Or.inl z
      · refine Or.inr ⟨z1, C k, (hA k hk).2.2.2, ⟨k, hk, e1, rfl⟩, ?_⟩
        have := p3 k hk
        rw [e1] at this
        omega
  · have eu : ∀ x, x < 14 → (if x < 14 then u x else 1) = u x := fun x hx => if_pos hx
    refine k5 (fun x => if x < 14 then u x else 1) (by omega) (fun k hk => ?_) (fun x hx => ?_) (fun x hx => ?_) (fun x => ?_) (fun x hx hr => ?_)
    · obtain ⟨-, a1, -, a2⟩ := hA k hk
      show (if C k < 14 then u (C k) else 1) < if A k < 14 then u (A k) else 1
      rw [eu _ a1, eu _ a2]
      exact hu.1 _ _ a1 a2 ⟨k, hk, rfl, rfl⟩
    · show (if x < 14 then u x else 1) ≤ 14
      rw [eu x hx]; exact wSt_14 hu hx
    · show (if x < 14 then u x else 1) = 1 ∨ _
      rw [eu x hx]
      rcases hu.2 x hx with z | ⟨-, c, hc, ⟨k, hk, e1, e2⟩, z⟩
      · exact Or.inl z
      · refine Or.inr ⟨k, hk, e1, ?_⟩
        show u x = (if C k < 14 then u (C k) else 1) + 1
        rw [e2, eu c hc]; exact z
    · show 1 ≤ if x < 14 then u x else 1
      by_cases hx : x < 14
      · rw [if_pos hx]; exact wSt_pos hu hx
      · rw [if_neg hx]; omega
    · have hr : (if x < 14 then u x else 1) ≤ 0 + 1 := hr
      show 1 = if x < 14 then u x else 1
      rw [eu x hx] at hr ⊢
      have := wSt_pos hu hx
      omega
set_option maxHeartbeats 1000000 in
theorem wl_last {σ τ : wg_M} {v : Nat → Nat} (hσ : wLb σ v) (hτ : wLm τ v) (hv : ∀ x, x < 14 → v x ≤ 1000) {q : Nat} (hq : q ≤ 1) : ∀ d k b n m, k + d = 14 → d < n → d < m → b < 14 → ∃ r, f_X8_longestRow_30 n 49 (nI q) (nI b) (nI k) σ = some (r, σ) ∧ f_X12_chain_47 m 0 (nI q) (nI b) (nI k) τ = some (r, τ) := by
  intro d
  induction d with
  | zero =>
    intro k b n m hk hn hm hb
    obtain ⟨n, rfl⟩ : ∃ k, n = k + 1 := ⟨n - 1, by omega⟩
    obtain ⟨m, rfl⟩ : ∃ k, m = k + 1 := ⟨m - 1, by omega⟩
    have s1 := hσ b hb
    have t1 := hτ b hb
    rcases (show q = 0 ∨ q = 1 by omega) with rfl | rfl
    · exact ⟨nI (v b), by simp -implicitDefEqProofs (disch := omega) only [e_X8_longestRow_30, e_X8_longestRow_30__1, e_X8_longestRow_30__2, e_X8_longestRow_30__3, s1, wx_bd, wx_let, wx_st, wx_lit, wx_ga, wx_sa, pk_mul, nI_add, wx_le, wx_lt, wx_eq, wx_en, wx_ne', wx_nn, wx_ltn, wx_len, wx_nlt, wx_nle, wx_bz0, wx_bz1, if_pos, if_neg, wx_ite, Nat.reduceEqDiff, eq_self, if_true, if_false, not_true_eq_false, not_false_eq_true], by simp -implicitDefEqProofs (disch := omega) only [e_X12_chain_47, e_X12_chain_47__1, e_X12_chain_47__2, e_X12_chain_47__3, t1, wx_bd, wx_let, wx_st, wx_lit, wx_ga, wx_sa, pk_mul, nI_add, wx_le, wx_lt, wx_eq, wx_en, wx_ne', wx_nn, wx_ltn, wx_len, wx_nlt, wx_nle, wx_bz0, wx_bz1, if_pos, if_neg, wx_ite, Nat.reduceEqDiff, eq_self, if_true, if_false, not_true_eq_false, not_false_eq_true]⟩
    · exact ⟨nI b, by simp -implicitDefEqProofs (disch := omega) only [e_X8_longestRow_30, e_X8_longestRow_30__1, e_X8_longestRow_30__2, e_X8_longestRow_30__3, s1, wx_bd, wx_let, wx_st, wx_lit, wx_ga, wx_sa, pk_mul, nI_add, wx_le, wx_lt, wx_eq, wx_en, wx_ne', wx_nn, wx_ltn, wx_len, wx_nlt, wx_nle, wx_bz0, wx_bz1, if_pos, if_neg, wx_ite, Nat.reduceEqDiff, eq_self, if_true, if_false, not_true_eq_false, not_false_eq_true], by simp -implicitDefEqProofs (disch := omega) only [e_X12_chain_47, e_X12_chain_47__1, e_X12_chain_47__2, e_X12_chain_47__3, t1, wx_bd, wx_let, wx_st, wx_lit, wx_ga, wx_sa, pk_mul, nI_add, wx_le, wx_lt, wx_eq, wx_en, wx_ne', wx_nn, wx_ltn, wx_len, wx_nlt, wx_nle, wx_bz0, wx_bz1, if_pos, if_neg, wx_ite, Nat.reduceEqDiff, eq_self, if_true, if_false, not_true_eq_false, not_false_eq_true]⟩
  | succ d ih =>
    intro k b n m hk hn hm hb
    obtain ⟨n, rfl⟩ : ∃ k, n = k + 1 := ⟨n - 1, by omega⟩
    obtain ⟨m, rfl⟩ : ∃ k, m = k + 1 := ⟨m - 1, by omega⟩
    have s1 := hσ b hb
    have t1 := hτ b hb
    have s2 := hσ k (by omega)
    have t2 := hτ k (by omega)
    have v1 := hv b hb
    have v2 := hv k (by omega)
    by_cases c : v k ≤ v b
    · obtain ⟨r, r1, r2⟩ := ih (k + 1) b n m (by omega) (by omega) (by omega) hb
      exact ⟨r, by simp -implicitDefEqProofs (disch := omega) only [e_X8_longestRow_30, e_X8_longestRow_30__1, e_X8_longestRow_30__2, e_X8_longestRow_30__3, e_X8_longestRow_53, e_X8_longestRow_53__1, s1, s2, wx_bd, wx_let, wx_st, wx_lit, wx_ga, wx_sa, pk_mul, nI_add, wx_le, wx_lt, wx_eq, wx_en, wx_ne', wx_nn, wx_ltn, wx_len, wx_nlt, wx_nle, wx_bz0, wx_bz1, if_pos, if_neg, wx_ite, Nat.reduceEqDiff, eq_self, if_true, if_false, not_true_eq_false, not_false_eq_true]; exact r1, by simp -implicitDefEqProofs (disch := omega) only [e_X12_chain_47, e_X12_chain_47__1, e_X12_chain_47__2, e_X12_chain_47__3, e_X12_chain_70, e_X12_chain_70__1, t1, t2, wx_bd, wx_let, wx_st, wx_lit, wx_ga, wx_sa, pk_mul, nI_add, wx_le, wx_lt, wx_eq, wx_en, wx_ne', wx_nn, wx_ltn, wx_len, wx_nlt, wx_nle, wx_bz0, wx_bz1, if_pos, if_neg, wx_ite, Nat.reduceEqDiff, eq_self, if_true, if_false, not_true_eq_false, not_false_eq_true]; exact r2⟩
    · obtain ⟨r, r1, r2⟩ := ih (k + 1) k n m (by omega) (by omega) (by omega) (by omega)
      exact ⟨r, by simp -implicitDefEqProofs (disch := omega) only [e_X8_longestRow_30, e_X8_longestRow_30__1, e_X8_longestRow_30__2, e_X8_longestRow_30__3, e_X8_longestRow_53, e_X8_longestRow_53__1, s1, s2, wx_bd, wx_let, wx_st, wx_lit, wx_ga, wx_sa, pk_mul, nI_add, wx_le, wx_lt, wx_eq, wx_en, wx_ne', wx_nn, wx_ltn, wx_len, wx_nlt, wx_nle, wx_bz0, wx_bz1, if_pos, if_neg, wx_ite, Nat.reduceEqDiff, eq_self, if_true, if_false, not_true_eq_false, not_false_eq_true]; exact r1, by simp -implicitDefEqProofs (disch := omega) only [e_X12_chain_47, e_X12_chain_47__1, e_X12_chain_47__2, e_X12_chain_47__3, e_X12_chain_70, e_X12_chain_70__1, t1, t2, wx_bd, wx_let, wx_st, wx_lit, wx_ga, wx_sa, pk_mul, nI_add, wx_le, wx_lt, wx_eq, wx_en, wx_ne', wx_nn, wx_ltn, wx_len, wx_nlt, wx_nle, wx_bz0, wx_bz1, if_pos, if_neg, wx_ite, Nat.reduceEqDiff, eq_self, if_true, if_false, not_true_eq_false, not_false_eq_true]; exact r2⟩
set_option maxHeartbeats 1000000 in
theorem ws_chain : wp_chain wR := by
  intro σ τ a0 h
  have h := wR_told (nI 0) h
  simp only [e_X12_chain, wx_st, wx_lit]
  generalize wg_u τ 0 0 (nI 0) = τ at h ⊢
  obtain ⟨nw, nj, nc, hX, hY, hP, hI, hD⟩ := wR_X h
  obtain ⟨n, hn, c1, c2, c3, c4⟩ := hX.2.2.2.1.2.2.2.2.2.1
  simp only [Nat.zero_add] at c1 c3 c4
  rcases wk_in a0 0 1 (by omega) (by omega) with ⟨i1, i2⟩ | ⟨q, -, q1, rfl, i1, i2⟩
  · exact ⟨-nI 1, σ, τ, by simp -implicitDefEqProofs (disch := omega) only [e_X11_chain, e_X11_chain__1, i1, wx_bd, wx_let, wx_st, wx_lit, wx_ga, wx_sa, pk_mul, nI_add, wx_le, wx_lt, wx_eq, wx_en, wx_ne', wx_nn, wx_ltn, wx_len, wx_nlt, wx_nle, wx_bz0, wx_bz1, if_pos, if_neg, wx_ite, Nat.reduceEqDiff, eq_self, if_true, if_false, not_true_eq_false, not_false_eq_true], by simp -implicitDefEqProofs (disch := omega) only [e_X12_chain, e_X12_chain__1, e_X12_chain__2, e_X12_chain__3, i2, wx_bd, wx_let, wx_st, wx_lit, wx_ga, wx_sa, pk_mul, nI_add, wx_le, wx_lt, wx_eq, wx_en, wx_ne', wx_nn, wx_ltn, wx_len, wx_nlt, wx_nle, wx_bz0, wx_bz1, if_pos, if_neg, wx_ite, Nat.reduceEqDiff, eq_self, if_true, if_false, not_true_eq_false, not_false_eq_true], h⟩
  · have tn : ∀ a, a < 100000 → (nI a).toInt.toNat = a := fun a ha => by rw [nI_toInt (by omega)]; rfl
    have hA : ∀ i, i < n → σ 53 i = nI (σ 53 i).toInt.toNat ∧ (σ 53 i).toInt.toNat < 14 ∧ σ 54 i = nI (σ 54 i).toInt.toNat ∧ (σ 54 i).toInt.toNat < 14 := fun i hi => by
      obtain ⟨⟨a, ha, ea⟩, c, hc, ec⟩ := c3 i hi
      rw [ea, ec, tn a (by omega), tn c (by omega)]
      exact ⟨rfl, ha, rfl, hc⟩
    have hm : ∀ a, a < 14 → τ 27 a = nI (τ 27 a).toInt.toNat ∧ (τ 27 a).toInt.toNat < 16384 := fun a ha => by
      obtain ⟨m, hm, em, -⟩ := c4 a ha
      rw [em, tn m (by omega)]
      exact ⟨rfl, hm⟩
    have hE : ∀ a c, a < 14 → c < 14 → ((∃ k, k < n ∧ (σ 53 k).toInt.toNat = a ∧ (σ 54 k).toInt.toNat = c) ↔ (τ 27 a).toInt.toNat.testBit c = true) := fun a c ha hc => by
      obtain ⟨m, hm, em, et⟩ := c4 a ha
      rw [em, tn m (by omega), et c hc]
      constructor
      · rintro ⟨k, hk, e1, e2⟩
        exact ⟨k, hk, by rw [(hA k hk).1, e1], by rw [(hA k hk).2.2.1, e2]⟩
      · rintro ⟨k, hk, e1, e2⟩
        exact ⟨k, hk, by rw [e1, tn a (by omega)], by rw [e2, tn c (by omega)]⟩
    obtain ⟨b, σ', v, b1, b2, b3, b4, b5⟩ := wl_mr (A := fun i => (σ 53 i).toInt.toNat) (C := fun i => (σ 54 i).toInt.toNat) hn c1 hA
    have hs' : ∀ a, a ≠ 21 → a ≠ 32 → a ≠ 33 → a ≠ 58 → σ' a = σ a := fun a _ _ _ q => b3 a q
    have s6 : σ' 49 6 = nI n := by rw [b3 49 (by omega)]; exact c1
    by_cases n0 : n = 0
    · subst n0
      obtain rfl : b = 1 := b5 (fun _ => 1) ⟨fun a c _ _ ⟨k, hk, _⟩ => by omega, fun _ _ => Or.inl rfl⟩
      have hR := wR_fr hs' (fun _ _ _ => rfl) h
      rcases (show q = 0 ∨ q = 1 by omega) with rfl | rfl
      · exact ⟨nI 0, σ', τ, by simp -implicitDefEqProofs (disch := omega) only [e_X11_chain, e_X11_chain__1, e_X11_chain_26, e_X11_chain_26__1, e_X8_longestRow, e_X8_longestRow__1, i1, b2, s6, wx_bd, wx_let, wx_st, wx_lit, wx_ga, wx_sa, pk_mul, nI_add, wx_le, wx_lt, wx_eq, wx_en, wx_ne', wx_nn, wx_ltn, wx_len, wx_nlt, wx_nle, wx_bz0, wx_bz1, if_pos, if_neg, wx_ite, Nat.reduceEqDiff, eq_self, if_true, if_false, not_true_eq_false, not_false_eq_true], by simp -implicitDefEqProofs (disch := omega) only [e_X12_chain, e_X12_chain__1, e_X12_chain__2, e_X12_chain__3, i2, c2, wx_bd, wx_let, wx_st, wx_lit, wx_ga, wx_sa, pk_mul, nI_add, wx_le, wx_lt, wx_eq, wx_en, wx_ne', wx_nn, wx_ltn, wx_len, wx_nlt, wx_nle, wx_bz0, wx_bz1, if_pos, if_neg, wx_ite, Nat.reduceEqDiff, eq_self, if_true, if_false, not_true_eq_false, not_false_eq_true], hR⟩
      · exact ⟨-nI 1, σ', τ, by simp -implicitDefEqProofs (disch := omega) only [e_X11_chain, e_X11_chain__1, e_X11_chain_26, e_X11_chain_26__1, e_X8_longestRow, e_X8_longestRow__1, i1, b2, s6, wx_bd, wx_let, wx_st, wx_lit, wx_ga, wx_sa, pk_mul, nI_add, wx_le, wx_lt, wx_eq, wx_en, wx_ne', wx_nn, wx_ltn, wx_len, wx_nlt, wx_nle, wx_bz0, wx_bz1, if_pos, if_neg, wx_ite, Nat.reduceEqDiff, eq_self, if_true, if_false, not_true_eq_false, not_false_eq_true], by simp -implicitDefEqProofs (disch := omega) only [e_X12_chain, e_X12_chain__1, e_X12_chain__2, e_X12_chain__3, i2, c2, wx_bd, wx_let, wx_st, wx_lit, wx_ga, wx_sa, pk_mul, nI_add, wx_le, wx_lt, wx_eq, wx_en, wx_ne', wx_nn, wx_ltn, wx_len, wx_nlt, wx_nle, wx_bz0, wx_bz1, if_pos, if_neg, wx_ite, Nat.reduceEqDiff, eq_self, if_true, if_false, not_true_eq_false, not_false_eq_true], hR⟩
    · obtain ⟨g, τ', u, g1, g2, g3, g4, g5, g6, g7⟩ := wl_fc (m := fun a => (τ 27 a).toInt.toNat) hm
      have hR := wR_fr hs' (τ' := τ') (fun a i hq => by
        by_cases c : a = 28
        · subst c; simp [wLq, wLv] at hq
        · rw [g3 a c]) h
      have hbg : b = g := by
        rcases (show b = 0 ∨ b = 1 by omega) with rfl | rfl
        · rcases (show g = 0 ∨ g = 1 by omega) with rfl | rfl
          · rfl
          · exact b5 u (wSt_cg (fun a c ha hc => (hE a c ha hc).symm) (g6 rfl))
        · exact (g7 v (wSt_cg hE (b4 rfl).2)).symm
      subst hbg
      rcases (show b = 0 ∨ b = 1 by omega) with rfl | rfl
      · rcases (show q = 0 ∨ q = 1 by omega) with rfl | rfl
        · exact ⟨-nI 1, σ', τ', by simp -implicitDefEqProofs (disch := omega) only [e_X11_chain, e_X11_chain__1, e_X11_chain_26, e_X11_chain_26__1, e_X8_longestRow, e_X8_longestRow__1, i1, b2, wx_bd, wx_let, wx_st, wx_lit, wx_ga, wx_sa, pk_mul, nI_add, wx_le, wx_lt, wx_eq, wx_en, wx_ne', wx_nn, wx_ltn, wx_len, wx_nlt, wx_nle, wx_bz0, wx_bz1, if_pos, if_neg, wx_ite, Nat.reduceEqDiff, eq_self, if_true, if_false, not_true_eq_false, not_false_eq_true], by simp -implicitDefEqProofs (disch := omega) only [e_X12_chain, e_X12_chain__1, e_X12_chain__2, e_X12_chain__3, i2, c2, g2, wx_bd, wx_let, wx_st, wx_lit, wx_ga, wx_sa, pk_mul, nI_add, wx_le, wx_lt, wx_eq, wx_en, wx_ne', wx_nn, wx_ltn, wx_len, wx_nlt, wx_nle, wx_bz0, wx_bz1, if_pos, if_neg, wx_ite, Nat.reduceEqDiff, eq_self, if_true, if_false, not_true_eq_false, not_false_eq_true], hR⟩
        · exact ⟨-nI 1, σ', τ', by simp -implicitDefEqProofs (disch := omega) only [e_X11_chain, e_X11_chain__1, e_X11_chain_26, e_X11_chain_26__1, e_X8_longestRow, e_X8_longestRow__1, i1, b2, wx_bd, wx_let, wx_st, wx_lit, wx_ga, wx_sa, pk_mul, nI_add, wx_le, wx_lt, wx_eq, wx_en, wx_ne', wx_nn, wx_ltn, wx_len, wx_nlt, wx_nle, wx_bz0, wx_bz1, if_pos, if_neg, wx_ite, Nat.reduceEqDiff, eq_self, if_true, if_false, not_true_eq_false, not_false_eq_true], by simp -implicitDefEqProofs (disch := omega) only [e_X12_chain, e_X12_chain__1, e_X12_chain__2, e_X12_chain__3, i2, c2, g2, wx_bd, wx_let, wx_st, wx_lit, wx_ga, wx_sa, pk_mul, nI_add, wx_le, wx_lt, wx_eq, wx_en, wx_ne', wx_nn, wx_ltn, wx_len, wx_nlt, wx_nle, wx_bz0, wx_bz1, if_pos, if_neg, wx_ite, Nat.reduceEqDiff, eq_self, if_true, if_false, not_true_eq_false, not_false_eq_true], hR⟩
      · obtain ⟨p1, p2⟩ := b4 rfl
        have p3 := wSt_cg hE p2
        have hτ : wLm τ' v := fun x hx => by rw [g4 x hx, wSt_eq (g6 rfl) p3 hx]
        obtain ⟨r, r1, r2⟩ := wl_last p1 hτ (fun x hx => by have := wSt_14 p3 hx; omega) q1 13 1 0 wg_N wg_N (by omega) (by rw [wx_N]; omega) (by rw [wx_N]; omega) (by omega)
        rcases (show q = 0 ∨ q = 1 by omega) with rfl | rfl
        · exact ⟨r, σ', τ', by simp -implicitDefEqProofs (disch := omega) only [e_X11_chain, e_X11_chain__1, e_X11_chain_26, e_X11_chain_26__1, e_X8_longestRow, e_X8_longestRow__1, i1, b2, s6, r1, wx_bd, wx_let, wx_st, wx_lit, wx_ga, wx_sa, pk_mul, nI_add, wx_le, wx_lt, wx_eq, wx_en, wx_ne', wx_nn, wx_ltn, wx_len, wx_nlt, wx_nle, wx_bz0, wx_bz1, if_pos, if_neg, wx_ite, Nat.reduceEqDiff, eq_self, if_true, if_false, not_true_eq_false, not_false_eq_true], by simp -implicitDefEqProofs (disch := omega) only [e_X12_chain, e_X12_chain__1, e_X12_chain__2, e_X12_chain__3, i2, c2, g2, r2, wx_bd, wx_let, wx_st, wx_lit, wx_ga, wx_sa, pk_mul, nI_add, wx_le, wx_lt, wx_eq, wx_en, wx_ne', wx_nn, wx_ltn, wx_len, wx_nlt, wx_nle, wx_bz0, wx_bz1, if_pos, if_neg, wx_ite, Nat.reduceEqDiff, eq_self, if_true, if_false, not_true_eq_false, not_false_eq_true], hR⟩
        · exact ⟨r, σ', τ', by simp -implicitDefEqProofs (disch := omega) only [e_X11_chain, e_X11_chain__1, e_X11_chain_26, e_X11_chain_26__1, e_X8_longestRow, e_X8_longestRow__1, i1, b2, s6, r1, wx_bd, wx_let, wx_st, wx_lit, wx_ga, wx_sa, pk_mul, nI_add, wx_le, wx_lt, wx_eq, wx_en, wx_ne', wx_nn, wx_ltn, wx_len, wx_nlt, wx_nle, wx_bz0, wx_bz1, if_pos, if_neg, wx_ite, Nat.reduceEqDiff, eq_self, if_true, if_false, not_true_eq_false, not_false_eq_true], by simp -implicitDefEqProofs (disch := omega) only [e_X12_chain, e_X12_chain__1, e_X12_chain__2, e_X12_chain__3, i2, c2, g2, r2, wx_bd, wx_let, wx_st, wx_lit, wx_ga, wx_sa, pk_mul, nI_add, wx_le, wx_lt, wx_eq, wx_en, wx_ne', wx_nn, wx_ltn, wx_len, wx_nlt, wx_nle, wx_bz0, wx_bz1, if_pos, if_neg, wx_ite, Nat.reduceEqDiff, eq_self, if_true, if_false, not_true_eq_false, not_false_eq_true], hR⟩

section HO
variable {h d : Nat → Nat} {N : Nat} {σ τ : wg_M}
set_option maxHeartbeats 1000000 in
theorem wl_pick (H : wHc h d N σ) (H' : wHm h d N τ) (hF : wHf h d N 0 τ) {L0 S : Nat} (hL0 : L0 ≤ 1000) (h0 : τ 32 0 = nI L0) (hS : S < 2 ^ N) : ∀ t i f m, i + t = N → t < f → t < m → (∃ e, i ≤ e ∧ e < N ∧ S.testBit e = false ∧ wHs (fun j => S.testBit j) h N + h e ≤ d e + L0 ∧ wHP h d N (S ||| 2 ^ e) L0) → ∃ e, e < N ∧ S.testBit e = false ∧ wHP h d N (S ||| 2 ^ e) L0 ∧ f_X8_leastThatKeeps_3 f 49 (nI L0) (nI S) (nI (wHs (fun j => S.testBit j) h N)) (nI i) σ = some (nI e, σ) ∧ ∀ (K : Nat → Int32 → Int32 → Int32 → Int32 → wg_M → Option (Int32 × wg_M)) x1 x4, f_X12_hears_61 K m 0 x1 (nI S) (nI i) (nI x4) τ = K 0 x1 (nI (S ||| 2 ^ e)) (nI e) (nI (x4 + 1)) τ := by
  obtain ⟨hN, h10, hj⟩ := id H
  have h2 : 2 ^ N ≤ 2 ^ 7 := Nat.pow_le_pow_right (by omega) hN
  have bd := wHs_bd (p := fun j => S.testBit j) (h := h) (B := 24) (k := N) (fun j q => (hj j q).2.1)
  intro t
  induction t with
  | zero =>
    intro i f m hi hf hm hex
    obtain ⟨e, e1, e2, -⟩ := hex
    omega
  | succ t ih =>
    intro i f m hi hf hm hex
    obtain ⟨f, rfl⟩ : ∃ k, f = k + 1 := ⟨f - 1, by omega⟩
    obtain ⟨m, rfl⟩ : ∃ k, m = k + 1 := ⟨m - 1, by omega⟩
    obtain ⟨a1, a2, a3, a4⟩ := hj i (by omega)
    have bt := wx_bit (show S < 2147483648 by omega) (show i < 31 by omega)
    have h01 : ¬ nI 1 = nI 0 := by decide
    by_cases c : S.testBit i = true
    · rw [if_pos c] at bt
      have hs := wl_has1 (show S < 2147483648 by omega) (show i < 31 by omega) c τ
      obtain ⟨e, g1, g2, g3, g4, g5⟩ := ih (i + 1) f m (by omega) (by omega) (by omega) (by
        obtain ⟨e, e1, e2, e3, e4⟩ := hex
        refine ⟨e, ?_, e2, e3, e4⟩
        rcases Nat.eq_or_lt_of_le e1 with q | q
        · subst q; rw [c] at e3; cases e3
        · omega)
      refine ⟨e, g1, g2, g3, ?_, fun K x1 x4 => ?_⟩
      · simp -implicitDefEqProofs (disch := omega) only [e_X8_leastThatKeeps_3, e_X8_leastThatKeeps_3__1, e_X8_leastThatKeeps_3__2, e_X8_leastThatKeeps_3__3, e_X8_leastThatKeeps_3__4, e_X8_leastThatKeeps_66, e_X8_leastThatKeeps_67, e_X8_leastThatKeeps_67__1, h10, a1, bt, h01, wx_bd, wx_let, wx_st, wx_lit, wx_ga, wx_sa, pk_mul, nI_add, wx_le, wx_lt, wx_eq, wx_en, wx_ne', wx_nn, wx_ltn, wx_len, wx_nlt, wx_nle, wx_bz0, wx_bz1, if_pos, if_neg, wx_ite, Nat.reduceEqDiff, eq_self, if_true, if_false, not_true_eq_false, not_false_eq_true]
        exact g4
      · simp -implicitDefEqProofs (disch := omega) only [e_X12_hears_61, e_X12_hears_61__1, e_X12_hears_61__2, e_X12_hears_61__3, e_X12_hears_61__4, e_X12_hears_61__5, e_X12_hears_85, e_X12_hears_85__1, hs, wx_bd, wx_let, wx_st, wx_lit, wx_ga, wx_sa, pk_mul, nI_add, wx_le, wx_lt, wx_eq, wx_en, wx_ne', wx_nn, wx_ltn, wx_len, wx_nlt, wx_nle, wx_bz0, wx_bz1, if_pos, if_neg, wx_ite, Nat.reduceEqDiff, eq_self, if_true, if_false, not_true_eq_false, not_false_eq_true]
        exact g5 K x1 x4
    · rw [if_neg c] at bt
      have c' : S.testBit i = false := by simpa using c
      have hs := wl_has0 (show S < 2147483648 by omega) (show i < 31 by omega) c τ
      obtain ⟨L, l1, l2, l3⟩ := hF (S ||| 2 ^ i) (Nat.zero_le _) (wx_or_lt hS (by omega))
      have lb := wl_lb H' (show S < 128 by omega) (show i < N by omega) l1 l2
      have o7 := wx_or128 (show S < 128 by omega) (show i < 7 by omega)
      obtain ⟨G, k1, k2, k3⟩ := wl_lateness H o7
      rw [wHs_up (by omega) c'] at k2
      have sh := wx_shl8 i (by omega)
      have gl : G ≤ L0 ↔ L ≤ L0 := (k3 L0 hL0).trans (l3 L0 hL0).symm
      have cmp := wx_lts (show L0 < 100000 by omega) (show wHs (fun j => S.testBit j) h N + h i < 100000 by omega) (show d i < 100000 by omega)
      have next : ¬ (wHs (fun j => S.testBit j) h N + h i ≤ d i + L0 ∧ L ≤ L0) → ∃ e, i + 1 ≤ e ∧ e < N ∧ S.testBit e = false ∧ wHs (fun j => S.testBit j) h N + h e ≤ d e + L0 ∧ wHP h d N (S ||| 2 ^ e) L0 := fun q => by
        obtain ⟨e, e1, e2, e3, e4, e5⟩ := hex
        refine ⟨e, ?_, e2, e3, e4, e5⟩
        rcases Nat.eq_or_lt_of_le e1 with z | z
        · subst z; exact (q ⟨e4, (l3 L0 hL0).2 e5⟩).elim
        · omega
      by_cases q1 : wHs (fun j => S.testBit j) h N + h i ≤ d i + L0
      · have n1 : ¬ L0 + d i < wHs (fun j => S.testBit j) h N + h i := by omega
        by_cases q2 : L ≤ L0
        · have q3 := gl.2 q2
          refine ⟨i, by omega, c', (l3 L0 hL0).1 q2, ?_, fun K x1 x4 => ?_⟩
          · simp -implicitDefEqProofs (disch := omega) only [e_X8_leastThatKeeps_3, e_X8_leastThatKeeps_3__1, e_X8_leastThatKeeps_3__2, e_X8_leastThatKeeps_3__3, e_X8_leastThatKeeps_3__4, e_X8_leastThatKeeps_66, e_X8_leastThatKeeps_67, e_X8_leastThatKeeps_67__1, h10, a1, a3, bt, cmp, n1, sh, fa_or, k2, h01, wx_bd, wx_let, wx_st, wx_lit, wx_ga, wx_sa, pk_mul, nI_add, wx_le, wx_lt, wx_eq, wx_en, wx_ne', wx_nn, wx_ltn, wx_len, wx_nlt, wx_nle, wx_bz0, wx_bz1, if_pos, if_neg, wx_ite, Nat.reduceEqDiff, eq_self, if_true, if_false, not_true_eq_false, not_false_eq_true]
          · simp -implicitDefEqProofs (disch := omega) only [e_X12_hears_61, e_X12_hears_61__1, e_X12_hears_61__2, e_X12_hears_61__3, e_X12_hears_61__4, e_X12_hears_61__5, e_X12_hears_85, e_X12_hears_85__1, hs, lb, h0, sh, fa_or, wx_bd, wx_let, wx_st, wx_lit, wx_ga, wx_sa, pk_mul, nI_add, wx_le, wx_lt, wx_eq, wx_en, wx_ne', wx_nn, wx_ltn, wx_len, wx_nlt, wx_nle, wx_bz0, wx_bz1, if_pos, if_neg, wx_ite, Nat.reduceEqDiff, eq_self, if_true, if_false, not_true_eq_false, not_false_eq_true]
        · have q3 : ¬ G ≤ L0 := fun z => q2 (gl.1 z)
          obtain ⟨e, g1, g2, g3, g4, g5⟩ := ih (i + 1) f m (by omega) (by omega) (by omega) (next (fun z => q2 z.2))
          refine ⟨e, g1, g2, g3, ?_, fun K x1 x4 => ?_⟩
          · simp -implicitDefEqProofs (disch := omega) only [e_X8_leastThatKeeps_3, e_X8_leastThatKeeps_3__1, e_X8_leastThatKeeps_3__2, e_X8_leastThatKeeps_3__3, e_X8_leastThatKeeps_3__4, e_X8_leastThatKeeps_66, e_X8_leastThatKeeps_67, e_X8_leastThatKeeps_67__1, h10, a1, a3, bt, cmp, n1, sh, fa_or, k2, wx_bd, wx_let, wx_st, wx_lit, wx_ga, wx_sa, pk_mul, nI_add, wx_le, wx_lt, wx_eq, wx_en, wx_ne', wx_nn, wx_ltn, wx_len, wx_nlt, wx_nle, wx_bz0, wx_bz1, if_pos, if_neg, wx_ite, Nat.reduceEqDiff, eq_self, if_true, if_false, not_true_eq_false, not_false_eq_true]
            exact g4
          · simp -implicitDefEqProofs (disch := omega) only [e_X12_hears_61, e_X12_hears_61__1, e_X12_hears_61__2, e_X12_hears_61__3, e_X12_hears_61__4, e_X12_hears_61__5, e_X12_hears_85, e_X12_hears_85__1, hs, lb, h0, wx_bd, wx_let, wx_st, wx_lit, wx_ga, wx_sa, pk_mul, nI_add, wx_le, wx_lt, wx_eq, wx_en, wx_ne', wx_nn, wx_ltn, wx_len, wx_nlt, wx_nle, wx_bz0, wx_bz1, if_pos, if_neg, wx_ite, Nat.reduceEqDiff, eq_self, if_true, if_false, not_true_eq_false, not_false_eq_true]
            exact g5 K x1 x4
      · have n1 : L0 + d i < wHs (fun j => S.testBit j) h N + h i := by omega
        obtain ⟨e, g1, g2, g3, g4, g5⟩ := ih (i + 1) f m (by omega) (by omega) (by omega) (next (fun z => q1 z.1))
        refine ⟨e, g1, g2, g3, ?_, fun K x1 x4 => ?_⟩
        · simp -implicitDefEqProofs (disch := omega) only [e_X8_leastThatKeeps_3, e_X8_leastThatKeeps_3__1, e_X8_leastThatKeeps_3__2, e_X8_leastThatKeeps_3__3, e_X8_leastThatKeeps_3__4, e_X8_leastThatKeeps_66, e_X8_leastThatKeeps_67, e_X8_leastThatKeeps_67__1, h10, a1, a3, bt, cmp, n1, wx_bd, wx_let, wx_st, wx_lit, wx_ga, wx_sa, pk_mul, nI_add, wx_le, wx_lt, wx_eq, wx_en, wx_ne', wx_nn, wx_ltn, wx_len, wx_nlt, wx_nle, wx_bz0, wx_bz1, if_pos, if_neg, wx_ite, Nat.reduceEqDiff, eq_self, if_true, if_false, not_true_eq_false, not_false_eq_true]
          exact g4
        · simp -implicitDefEqProofs (disch := omega) only [e_X12_hears_61, e_X12_hears_61__1, e_X12_hears_61__2, e_X12_hears_61__3, e_X12_hears_61__4, e_X12_hears_61__5, e_X12_hears_85, e_X12_hears_85__1, hs, lb, h0, wx_bd, wx_let, wx_st, wx_lit, wx_ga, wx_sa, pk_mul, nI_add, wx_le, wx_lt, wx_eq, wx_en, wx_ne', wx_nn, wx_ltn, wx_len, wx_nlt, wx_nle, wx_bz0, wx_bz1, if_pos, if_neg, wx_ite, Nat.reduceEqDiff, eq_self, if_true, if_false, not_true_eq_false, not_false_eq_true]
          exact g5 K x1 x4
set_option maxHeartbeats 1000000 in
theorem wl_order (H : wHc h d N σ) (H' : wHm h d N τ) (hF : wHf h d N 0 τ) {L0 p : Nat} (hL0 : L0 ≤ 1000) (h0 : τ 32 0 = nI L0) (hp : p < N) : ∀ t i S b f m, i + t = p + 1 → t < f → t < m → wh_n (fun j => !S.testBit j) N + i = N → S < 2 ^ N → wHP h d N S L0 → ∃ r, f_X8_heardAt_18 f 49 (nI p) (nI L0) (nI S) (nI (wHs (fun j => S.testBit j) h N)) b (nI i) σ = some (r, σ) ∧ f_X12_hears_50 m 0 (nI (p + 10)) (nI S) b (nI i) τ = some (r, τ) := by
  obtain ⟨hN, h10, hj⟩ := id H
  have h2 : 2 ^ N ≤ 2 ^ 7 := Nat.pow_le_pow_right (by omega) hN
  have es : nI (p + 10) - nI 10 = nI p := by rw [wx_sub (by omega)]; congr 1
  intro t
  induction t with
  | zero =>
    intro i S b f m hi hf hm hc hS hP
    obtain ⟨f, rfl⟩ : ∃ k, f = k + 1 := ⟨f - 1, by omega⟩
    obtain ⟨m, rfl⟩ : ∃ k, m = k + 1 := ⟨m - 1, by omega⟩
    exact ⟨b, by simp -implicitDefEqProofs (disch := omega) only [e_X8_heardAt_18, e_X8_heardAt_18__1, e_X8_heardAt_18__2, e_X8_heardAt_18__3, e_X8_heardAt_18__4, e_X8_heardAt_18__5, wx_bd, wx_let, wx_st, wx_lit, wx_ga, wx_sa, pk_mul, nI_add, wx_le, wx_lt, wx_eq, wx_en, wx_ne', wx_nn, wx_ltn, wx_len, wx_nlt, wx_nle, wx_bz0, wx_bz1, if_pos, if_neg, wx_ite, Nat.reduceEqDiff, eq_self, if_true, if_false, not_true_eq_false, not_false_eq_true], by simp -implicitDefEqProofs (disch := omega) only [e_X12_hears_50, es, wx_bd, wx_let, wx_st, wx_lit, wx_ga, wx_sa, pk_mul, nI_add, wx_le, wx_lt, wx_eq, wx_en, wx_ne', wx_nn, wx_ltn, wx_len, wx_nlt, wx_nle, wx_bz0, wx_bz1, if_pos, if_neg, wx_ite, Nat.reduceEqDiff, eq_self, if_true, if_false, not_true_eq_false, not_false_eq_true]⟩
  | succ t ih =>
    intro i S b f m hi hf hm hc hS hP
    obtain ⟨f, rfl⟩ : ∃ k, f = k + 1 := ⟨f - 1, by omega⟩
    obtain ⟨m, rfl⟩ : ∃ k, m = k + 1 := ⟨m - 1, by omega⟩
    have nf : ∃ j, j < N ∧ S.testBit j = false := by
      by_cases q : ∃ j, j < N ∧ S.testBit j = false
      · exact q
      · have : wh_n (fun j => !S.testBit j) N = 0 := wh_n_0 (fun j hj => by
          cases e : S.testBit j
          · exact (q ⟨j, hj, e⟩).elim
          · rfl)
        omega
    obtain ⟨e, e1, e2, e3, e4⟩ := (wHP_step (fun j q => (hj j q).2.2.2) nf).1 hP
    obtain ⟨e, g1, g2, g3, g4, g5⟩ := wl_pick H H' hF hL0 h0 hS N 0 wg_N wg_N (by omega) (by rw [wx_N]; omega) (by rw [wx_N]; omega) ⟨e, Nat.zero_le _, e1, e2, e3, e4⟩
    have cs := wHn_set g1 g2
    obtain ⟨r, r1, r2⟩ := ih (i + 1) (S ||| 2 ^ e) (nI e) f m (by omega) (by omega) (by omega) (by omega) (wx_or_lt hS g1) g3
    rw [wHs_up g1 g2] at r1
    have a1 := (hj e g1).1
    have sh := wx_shl8 e (by omega)
    have lk : f_X8_leastThatKeeps 49 (nI L0) (nI S) (nI (wHs (fun j => S.testBit j) h N)) σ = some (nI e, σ) := by
      rw [e_X8_leastThatKeeps]; exact g4
    refine ⟨r, ?_, ?_⟩
    · simp -implicitDefEqProofs (disch := omega) only [e_X8_heardAt_18, e_X8_heardAt_18__1, e_X8_heardAt_18__2, e_X8_heardAt_18__3, e_X8_heardAt_18__4, e_X8_heardAt_18__5, h10, lk, a1, sh, fa_or, wx_bd, wx_let, wx_st, wx_lit, wx_ga, wx_sa, pk_mul, nI_add, wx_le, wx_lt, wx_eq, wx_en, wx_ne', wx_nn, wx_ltn, wx_len, wx_nlt, wx_nle, wx_bz0, wx_bz1, if_pos, if_neg, wx_ite, Nat.reduceEqDiff, eq_self, if_true, if_false, not_true_eq_false, not_false_eq_true]
      exact r1
    · simp -implicitDefEqProofs (disch := omega) only [e_X12_hears_50, es, g5, wx_bd, wx_let, wx_st, wx_lit, wx_ga, wx_sa, pk_mul, nI_add, wx_le, wx_lt, wx_eq, wx_en, wx_ne', wx_nn, wx_ltn, wx_len, wx_nlt, wx_nle, wx_bz0, wx_bz1, if_pos, if_neg, wx_ite, Nat.reduceEqDiff, eq_self, if_true, if_false, not_true_eq_false, not_false_eq_true]
      exact r2
end HO
set_option maxHeartbeats 1000000 in
theorem ws_hears : wp_hears wR := by
  intro σ τ a0 hh
  have hh := wR_told (nI 0) hh
  simp only [e_X12_hears, wx_st, wx_lit]
  generalize wg_u τ 0 0 (nI 0) = τ at hh ⊢
  obtain ⟨nw, nj, nc, hX, hY, hP, hI, hD⟩ := wR_X hh
  obtain ⟨N, hN, c1, c2, c3⟩ := hX.2.2.2.1.2.2.2.2.2.2.2
  simp only [Nat.zero_add] at c1 c3
  have tn : ∀ a, a < 100000 → (nI a).toInt.toNat = a := fun a ha => by rw [nI_toInt (by omega)]; rfl
  have H : wHc (fun j => (τ 30 j).toInt.toNat) (fun j => (τ 31 j).toInt.toNat) N σ := ⟨hN, c1, fun j hj => by
    obtain ⟨p1, p2, ⟨x, x1, x2, x3⟩, y, y1, y2⟩ := c3 j hj
    show σ 56 j = nI (τ 30 j).toInt.toNat ∧ (τ 30 j).toInt.toNat ≤ 24 ∧ σ 57 j = nI (τ 31 j).toInt.toNat ∧ (τ 31 j).toInt.toNat ≤ 99
    rw [p1, p2, x3, y2, tn x (by omega), tn y (by omega)]
    exact ⟨rfl, x2, rfl, y1⟩⟩
  have H' : wHm (fun j => (τ 30 j).toInt.toNat) (fun j => (τ 31 j).toInt.toNat) N τ := ⟨hN, c2, fun j hj => by
    obtain ⟨p1, p2, p3, p4⟩ := H.2.2 j hj
    obtain ⟨q1, q2, -⟩ := c3 j hj
    exact ⟨q1 ▸ p1, p2, q2 ▸ p3, p4⟩⟩
  obtain ⟨τ', f1, f2, f3⟩ := wl_findsLate H'
  have hR := wR_fr (fun _ _ _ _ _ => rfl) (τ' := τ') (fun a i hq => by
    by_cases c : a = 32
    · subst c; simp [wLq, wLv] at hq
    · rw [f2 a c]) hh
  generalize hhd : (fun j => (τ 30 j).toInt.toNat) = h at *
  generalize hdd : (fun j => (τ 31 j).toInt.toNat) = d at *
  have H2 : wHm h d N τ' := ⟨hN, by rw [f2 0 (by omega)]; exact c2, fun j q => by rw [f2 30 (by omega), f2 31 (by omega)]; exact H'.2.2 j q⟩
  obtain ⟨G, k1, k2, k3⟩ := wl_lateness H (show 0 < 128 by omega)
  have z0 : wHs (fun j => (0 : Nat).testBit j) h N = 0 := by
    have := wHs_bd (p := fun j => (0 : Nat).testBit j) (h := fun _ => 0) (B := 0) (k := N) (fun _ _ => Nat.le_refl _)
    have e : ∀ n, wHs (fun j => (0 : Nat).testBit j) h n = 0 := fun n => by
      induction n with
      | zero => rfl
      | succ n ih =>
        show wHs (fun j => (0 : Nat).testBit j) h n + (if (0 : Nat).testBit n = true then h n else 0) = 0
        rw [ih, Nat.zero_testBit]; rfl
    exact e N
  rw [z0] at k2
  obtain ⟨L, l1, l2, l3⟩ := f3 0 (Nat.zero_le _) (Nat.two_pow_pos N)
  have eG : L = G := by
    have a := (l3 G k1).2 ((k3 G k1).1 (Nat.le_refl _))
    have b := (k3 L l2).2 ((l3 L l2).1 (Nat.le_refl _))
    omega
  subst eG
  by_cases q0 : a0 = nI 0
  · subst q0
    exact ⟨nI L, σ, τ', by simp -implicitDefEqProofs (disch := omega) only [e_X11_hears, e_X11_hears__1, e_X11_hears__2, k2, wx_bd, wx_let, wx_st, wx_lit, wx_ga, wx_sa, pk_mul, nI_add, wx_le, wx_lt, wx_eq, wx_en, wx_ne', wx_nn, wx_ltn, wx_len, wx_nlt, wx_nle, wx_bz0, wx_bz1, if_pos, if_neg, wx_ite, Nat.reduceEqDiff, eq_self, if_true, if_false, not_true_eq_false, not_false_eq_true], by simp -implicitDefEqProofs (disch := omega) only [e_X12_hears, e_X12_hears__1, e_X12_hears__2, e_X12_hears_28, e_X12_hears_28__1, e_X12_hears_28__2, f1, l1, wx_bd, wx_let, wx_st, wx_lit, wx_ga, wx_sa, pk_mul, nI_add, wx_le, wx_lt, wx_eq, wx_en, wx_ne', wx_nn, wx_ltn, wx_len, wx_nlt, wx_nle, wx_bz0, wx_bz1, if_pos, if_neg, wx_ite, Nat.reduceEqDiff, eq_self, if_true, if_false, not_true_eq_false, not_false_eq_true], hR⟩
  · by_cases q1 : a0 < nI 10
    · refine ⟨-nI 1, σ, τ, by simp -implicitDefEqProofs (disch := omega) only [e_X11_hears, e_X11_hears__1, e_X11_hears__2, q0, q1, wx_bd, wx_let, wx_st, wx_lit, wx_ga, wx_sa, pk_mul, nI_add, wx_le, wx_lt, wx_eq, wx_en, wx_ne', wx_nn, wx_ltn, wx_len, wx_nlt, wx_nle, wx_bz0, wx_bz1, if_pos, if_neg, wx_ite, Nat.reduceEqDiff, eq_self, if_true, if_false, not_true_eq_false, not_false_eq_true], by simp -implicitDefEqProofs (disch := omega) only [e_X12_hears, e_X12_hears__1, e_X12_hears__2, e_X12_isIn, c2, q0, q1, wx_bd, wx_let, wx_st, wx_lit, wx_ga, wx_sa, pk_mul, nI_add, wx_le, wx_lt, wx_eq, wx_en, wx_ne', wx_nn, wx_ltn, wx_len, wx_nlt, wx_nle, wx_bz0, wx_bz1, if_pos, if_neg, wx_ite, Nat.reduceEqDiff, eq_self, if_true, if_false, not_true_eq_false, not_false_eq_true], hh⟩
    · have g0 : 10 ≤ a0.toInt := by
        rw [Int32.lt_iff_toInt_lt, nI_toInt (by omega)] at q1
        omega
      have gl : a0.toInt < 2147483648 := by have := Int32.toInt_lt a0; omega
      obtain ⟨j, hj, rfl⟩ : ∃ j, j < 2147483648 ∧ a0 = nI j := ⟨a0.toInt.toNat, by omega, by
        rw [← Int32.toInt_inj, nI_toInt (by omega)]; omega⟩
      rw [nI_toInt (by omega)] at g0
      have es : nI j - nI 10 = nI (j - 10) := wx_sub (by omega)
      by_cases q2 : j - 10 < N
      · obtain ⟨p, rfl⟩ : ∃ p, j = p + 10 := ⟨j - 10, by omega⟩
        have es : nI (p + 10) - nI 10 = nI p := by rw [wx_sub (by omega)]; congr 1
        have u0 : wh_n (fun j => !(0 : Nat).testBit j) N + 0 = N := by
          have e : ∀ n, wh_n (fun j => !(0 : Nat).testBit j) n = n := fun n => by
            induction n with
            | zero => rfl
            | succ n ih =>
              show wh_n (fun j => !(0 : Nat).testBit j) n + (if (!(0 : Nat).testBit n) = true then 1 else 0) = n + 1
              rw [ih, Nat.zero_testBit]; rfl
          exact e N
        obtain ⟨r, r1, r2⟩ := wl_order H H2 f3 l2 l1 (show p < N by omega) (p + 1) 0 0 (-nI 1) wg_N wg_N (by omega) (by rw [wx_N]; omega) (by rw [wx_N]; omega) u0 (Nat.two_pow_pos N) ((l3 L l2).1 (Nat.le_refl _))
        rw [z0] at r1
        exact ⟨r, σ, τ', by simp -implicitDefEqProofs (disch := omega) only [e_X11_hears, e_X11_hears__1, e_X11_hears__2, e_X8_heardAt, e_X8_heardAt__1, c1, es, k2, r1, wx_bd, wx_let, wx_st, wx_lit, wx_ga, wx_sa, pk_mul, nI_add, wx_le, wx_lt, wx_eq, wx_en, wx_ne', wx_nn, wx_ltn, wx_len, wx_nlt, wx_nle, wx_bz0, wx_bz1, if_pos, if_neg, wx_ite, Nat.reduceEqDiff, eq_self, if_true, if_false, not_true_eq_false, not_false_eq_true], by simp -implicitDefEqProofs (disch := omega) only [e_X12_hears, e_X12_hears__1, e_X12_hears__2, e_X12_hears_28, e_X12_hears_28__1, e_X12_hears_28__2, e_X12_isIn, c2, f1, r2, wx_bd, wx_let, wx_st, wx_lit, wx_ga, wx_sa, pk_mul, nI_add, wx_le, wx_lt, wx_eq, wx_en, wx_ne', wx_nn, wx_ltn, wx_len, wx_nlt, wx_nle, wx_bz0, wx_bz1, if_pos, if_neg, wx_ite, Nat.reduceEqDiff, eq_self, if_true, if_false, not_true_eq_false, not_false_eq_true], hR⟩
      · exact ⟨-nI 1, σ, τ, by simp -implicitDefEqProofs (disch := omega) only [e_X11_hears, e_X11_hears__1, e_X11_hears__2, c1, es, wx_bd, wx_let, wx_st, wx_lit, wx_ga, wx_sa, pk_mul, nI_add, wx_le, wx_lt, wx_eq, wx_en, wx_ne', wx_nn, wx_ltn, wx_len, wx_nlt, wx_nle, wx_bz0, wx_bz1, if_pos, if_neg, wx_ite, Nat.reduceEqDiff, eq_self, if_true, if_false, not_true_eq_false, not_false_eq_true], by simp -implicitDefEqProofs (disch := omega) only [e_X12_hears, e_X12_hears__1, e_X12_hears__2, e_X12_isIn, c2, wx_bd, wx_let, wx_st, wx_lit, wx_ga, wx_sa, pk_mul, nI_add, wx_le, wx_lt, wx_eq, wx_en, wx_ne', wx_nn, wx_ltn, wx_len, wx_nlt, wx_nle, wx_bz0, wx_bz1, if_pos, if_neg, wx_ite, Nat.reduceEqDiff, eq_self, if_true, if_false, not_true_eq_false, not_false_eq_true], hh⟩

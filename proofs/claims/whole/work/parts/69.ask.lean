/-! verdicts don't hang on scratch; forum, alike, saves, game, cut -/
set_option maxHeartbeats 1000000 in
theorem wv_inj {v u : Nat} (hv : v < 1999) (hu : u < 1999) (h : nI v - nI 999 = nI u - nI 999) : v = u := by
  have := congrArg Int32.toInt h
  rw [pk_sub_toInt (by omega) (by omega), pk_sub_toInt (by omega) (by omega)] at this
  omega
set_option maxHeartbeats 1000000 in
theorem wv_le {v u : Nat} (hv : v < 1999) (hu : u < 1999) : (nI v - nI 999 ≤ nI u - nI 999) = (v ≤ u) := by
  apply propext
  rw [Int32.le_iff_toInt_le, pk_sub_toInt (by omega) (by omega), pk_sub_toInt (by omega) (by omega)]
  omega
set_option maxHeartbeats 1000000 in
theorem wv_lt {v u : Nat} (hv : v < 1999) (hu : u < 1999) : (nI v - nI 999 < nI u - nI 999) = (v < u) := by
  apply propext
  rw [Int32.lt_iff_toInt_lt, pk_sub_toInt (by omega) (by omega), pk_sub_toInt (by omega) (by omega)]
  omega
set_option maxHeartbeats 1000000 in
theorem wv_pos {v : Nat} (hv : v < 1999) : (nI v - nI 999 ≤ nI 0) = (v ≤ 999) := by
  apply propext
  rw [Int32.le_iff_toInt_le, pk_sub_toInt (by omega) (by omega), nI_toInt (by omega)]
  omega
/-- the verdicts of a bench -/
def wVd (nj nc : Nat) (σ τ : wg_M) (V : Nat → Nat → Nat) : Prop := ∀ c j, c < nc → j < nj → V c j < 1999 ∧ ∀ σ' τ', wSc σ σ' → wSm τ τ' → ∃ σ'' τ'', f_X1_verdictOf 279 (nI c) (nI j) σ' = some (nI (V c j) - nI 999, σ'') ∧ f_X12_verdictOf 0 (nI c) (nI j) τ' = some (nI (V c j) - nI 999, τ'') ∧ wSc σ σ'' ∧ wSm τ τ''
set_option maxHeartbeats 1000000 in
theorem wl_vd {nw nj nc : Nat} {σ τ : wg_M} (h : wB nw nj nc σ 1 (τ 1) τ) (hN : wN nw nj nc τ) (hL : wLw σ 0 τ) : ∃ V, wVd nj nc σ τ V := by
  have hn : nw ≤ 8 ∧ nj ≤ 10 ∧ nc ≤ 14 := ⟨hN.1, hN.2.1, hN.2.2.1⟩
  have key : ∀ c j, ∃ v, c < nc → j < nj → v < 1999 ∧ ∀ σ' τ', wSc σ σ' → wSm τ τ' → ∃ σ'' τ'', f_X1_verdictOf 279 (nI c) (nI j) σ' = some (nI v - nI 999, σ'') ∧ f_X12_verdictOf 0 (nI c) (nI j) τ' = some (nI v - nI 999, τ'') ∧ wSc σ σ'' ∧ wSm τ τ'' := by
    intro c j
    by_cases hc : c < nc
    · by_cases hj : j < nj
      · obtain ⟨v, σ0, τ0, v1, v2, v3, v4, v5⟩ := wl_verdict h hN hL hj hc
        refine ⟨v, fun _ _ => ⟨v1, fun σ' τ' q1 q2 => ?_⟩⟩
        obtain ⟨u, σ1, τ1, u1, u2, u3, u4, u5⟩ := wl_verdict (wB_s hn (wSc_rfl σ) q2 h) (wN_s q2 hN) (wLw_s (wSc_rfl σ) q2 hL) hj hc
        obtain ⟨t, σ2, τ2, t1, t2, t3, t4, t5⟩ := wl_verdict (wB_s hn q1 q2 h) (wN_s q2 hN) (wLw_s q1 q2 hL) hj hc
        rw [v2] at u2
        simp only [Option.some.injEq, Prod.mk.injEq] at u2
        have e1 := wv_inj v1 u1 u2.1
        rw [u3] at t3
        simp only [Option.some.injEq, Prod.mk.injEq] at t3
        have e2 := wv_inj u1 t1 t3.1
        subst e1
        subst e2
        refine ⟨σ2, τ2, t2, ?_, wSc_tr q1 t4, wSm_tr q2 t5⟩
        rw [u3, t3.2]
      · exact ⟨0, fun _ q => absurd q hj⟩
    · exact ⟨0, fun q => absurd q hc⟩
  refine ⟨fun c j => Classical.choose (key c j), fun c j hc hj => Classical.choose_spec (key c j) hc hj⟩
section FO
variable {nw nj nc : Nat} {σ τ : wg_M}
set_option maxHeartbeats 1000000 in
theorem wl_lives_s (h : wB nw nj nc σ 1 (τ 1) τ) (hN : wN nw nj nc τ) {j : Nat} (hj : j < nj) : (τ 1 (23 + j) = nI 0 ∧ (∀ σ', wSc σ σ' → f_X2_lives 11 (nI j) σ' = some (nI 1, σ')) ∧ ∀ τ', wSm τ τ' → f_X12_isAlive 0 (nI j) τ' = some (nI 1, τ')) ∨ (τ 1 (23 + j) = nI 1 ∧ (∀ σ', wSc σ σ' → f_X2_lives 11 (nI j) σ' = some (nI 0, σ')) ∧ ∀ τ', wSm τ τ' → f_X12_isAlive 0 (nI j) τ' = some (nI 0, τ')) := by
  have hn : nw ≤ 8 ∧ nj ≤ 10 ∧ nc ≤ 14 := ⟨hN.1, hN.2.1, hN.2.2.1⟩
  rcases wl_alive h hN hj with ⟨c, -, -⟩ | ⟨c, -, -⟩
  · left
    refine ⟨c, fun σ' q => ?_, fun τ' q => ?_⟩
    · rcases wl_alive (wB_s hn q (wSm_rfl τ) h) hN hj with ⟨-, c1, -⟩ | ⟨c', -, -⟩
      · exact c1
      · rw [c] at c'; exact absurd c' (by decide)
    · rcases wl_alive (wB_s hn (wSc_rfl σ) q h) (wN_s q hN) hj with ⟨-, -, c1⟩ | ⟨c', -, -⟩
      · exact c1
      · rw [q 1 (by omega) (by omega), c] at c'; exact absurd c' (by decide)
  · right
    refine ⟨c, fun σ' q => ?_, fun τ' q => ?_⟩
    · rcases wl_alive (wB_s hn q (wSm_rfl τ) h) hN hj with ⟨c', -, -⟩ | ⟨-, c1, -⟩
      · rw [c] at c'; exact absurd c' (by decide)
      · exact c1
    · rcases wl_alive (wB_s hn (wSc_rfl σ) q h) (wN_s q hN) hj with ⟨c', -, -⟩ | ⟨-, -, c1⟩
      · rw [q 1 (by omega) (by omega), c] at c'; exact absurd c' (by decide)
      · exact c1
set_option maxHeartbeats 1000000 in
theorem wl_forum_l (h : wB nw nj nc σ 1 (τ 1) τ) (hN : wN nw nj nc τ) {V : Nat → Nat → Nat} (hV : wVd nj nc σ τ V) {c q : Nat} (hc : c < nc) (hq : q ≤ 1) : ∀ d i n m σ' τ' x f, i + d = nj → d < n → d < m → wSc σ σ' → wSm τ τ' → (x = -nI 1 ∨ ∃ b, b < nj ∧ x = nI b ∧ f = nI (V c b) - nI 999) → ∃ r σ'' τ'', f_X7_forumOf_8 n 280 (nI c) (nI (1 - q)) x f (nI i) σ' = some (r, σ'') ∧ f_X12_forum_30 m 0 (nI c) (nI q) x (nI i) τ' = some (r, τ'') ∧ wSc σ σ'' ∧ wSm τ τ'' := by
  obtain ⟨n1, n2, n3, n4, n5, n6⟩ := id hN
  intro d
  induction d with
  | zero =>
    intro i n m σ' τ' x f hi hn hm s1 s2 hx
    obtain ⟨n, rfl⟩ : ∃ k, n = k + 1 := ⟨n - 1, by omega⟩
    obtain ⟨m, rfl⟩ : ∃ k, m = k + 1 := ⟨m - 1, by omega⟩
    have e5 : σ' 11 5 = nI nj := by rw [s1 11 (by omega) (by omega)]; exact wb_nj h
    have f5 : τ' 0 7 = nI nj := by rw [s2 0 (by omega) (by omega)]; exact n5
    refine ⟨x, σ', τ', ?_, ?_, s1, s2⟩
    · simp -implicitDefEqProofs (disch := omega) only [e_X7_forumOf_8, e_X7_forumOf_8__1, e_X7_forumOf_8__2, e5, wx_bd, wx_let, wx_st, wx_lit, wx_ga, wx_sa, pk_mul, nI_add, wx_le, wx_lt, wx_eq, wx_en, wx_ne', wx_nn, wx_ltn, wx_len, wx_nlt, wx_nle, wx_bz0, wx_bz1, if_pos, if_neg, wx_ite, Nat.reduceEqDiff, eq_self, if_true, if_false, not_true_eq_false, not_false_eq_true]
    · simp -implicitDefEqProofs (disch := omega) only [e_X12_forum_30, e_X12_forum_30__1, e_X12_forum_30__2, e_X12_forum_30__3, f5, wx_bd, wx_let, wx_st, wx_lit, wx_ga, wx_sa, pk_mul, nI_add, wx_le, wx_lt, wx_eq, wx_en, wx_ne', wx_nn, wx_ltn, wx_len, wx_nlt, wx_nle, wx_bz0, wx_bz1, if_pos, if_neg, wx_ite, Nat.reduceEqDiff, eq_self, if_true, if_false, not_true_eq_false, not_false_eq_true]
  | succ d ih =>
    intro i n m σ' τ' x f hi hn hm s1 s2 hx
    obtain ⟨n, rfl⟩ : ∃ k, n = k + 1 := ⟨n - 1, by omega⟩
    obtain ⟨m, rfl⟩ : ∃ k, m = k + 1 := ⟨m - 1, by omega⟩
    have hij : i < nj := by omega
    have e5 : σ' 11 5 = nI nj := by rw [s1 11 (by omega) (by omega)]; exact wb_nj h
    have f5 : τ' 0 7 = nI nj := by rw [s2 0 (by omega) (by omega)]; exact n5
    rcases wl_lives_s h hN hij with ⟨-, l1, l2⟩ | ⟨-, l1, l2⟩
    · have l1 := l1 σ' s1
      have l2 := l2 τ' s2
      obtain ⟨hv, hvv⟩ := hV c i hc hij
      obtain ⟨σ1, τ1, a1, a2, a3, a4⟩ := hvv σ' τ' s1 s2
      rcases hx with rfl | ⟨b, hb, rfl, rfl⟩
      · -- nobody yet; the reference asks no verdict here
        obtain ⟨r, σ'', τ'', r1, r2, r3, r4⟩ := ih (i + 1) n m σ1 τ' (nI i) (nI (V c i) - nI 999) (by omega) (by omega) (by omega) a3 s2 (Or.inr ⟨i, hij, rfl, rfl⟩)
        refine ⟨r, σ'', τ'', ?_, ?_, r3, r4⟩
        · have : f_X7_forumOf_8 (n + 1) 280 (nI c) (nI (1 - q)) (-nI 1) f (nI i) σ' = f_X7_forumOf_8 n 280 (nI c) (nI (1 - q)) (nI i) (nI (V c i) - nI 999) (nI (i + 1)) σ1 := by
            simp -implicitDefEqProofs (disch := omega) only [e_X7_forumOf_8, e_X7_forumOf_8__1, e_X7_forumOf_8__2, e_X7_forumOf_90, e_X7_forumOf_102, e_X7_forumOf_109, e_X7_forumOf_109__1, e5, l1, a1, wx_bd, wx_let, wx_st, wx_lit, wx_ga, wx_sa, pk_mul, nI_add, wx_le, wx_lt, wx_eq, wx_en, wx_ne', wx_nn, wx_ltn, wx_len, wx_nlt, wx_nle, wx_bz0, wx_bz1, if_pos, if_neg, wx_ite, Nat.reduceEqDiff, eq_self, if_true, if_false, not_true_eq_false, not_false_eq_true]
          rw [this]; exact r1
        · simp -implicitDefEqProofs (disch := omega) only [e_X12_forum_30, e_X12_forum_30__1, e_X12_forum_30__2, e_X12_forum_30__3, e_X12_forum_97, e_X12_forum_100, e_X12_forum_100__1, f5, l2, wx_bd, wx_let, wx_st, wx_lit, wx_ga, wx_sa, pk_mul, nI_add, wx_le, wx_lt, wx_eq, wx_en, wx_ne', wx_nn, wx_ltn, wx_len, wx_nlt, wx_nle, wx_bz0, wx_bz1, if_pos, if_neg, wx_ite, Nat.reduceEqDiff, eq_self, if_true, if_false, not_true_eq_false, not_false_eq_true]
          exact r2
      · obtain ⟨hvb, hvvb⟩ := hV c b hc hb
        obtain ⟨-, τ2, -, b2, -, b4⟩ := hvvb σ' τ1 s1 a4
        rcases (show q = 0 ∨ q = 1 by omega) with rfl | rfl
        · by_cases cv : V c i ≤ V c b
          · obtain ⟨r, σ'', τ'', r1, r2, r3, r4⟩ := ih (i + 1) n m σ1 τ2 (nI b) (nI (V c b) - nI 999) (by omega) (by omega) (by omega) a3 b4 (Or.inr ⟨b, hb, rfl, rfl⟩)
            refine ⟨r, σ'', τ'', ?_, ?_, r3, r4⟩
            · simp -implicitDefEqProofs (disch := omega) only [e_X7_forumOf_8, e_X7_forumOf_8__1, e_X7_forumOf_8__2, e_X7_forumOf_90, e_X7_forumOf_102, e_X7_forumOf_109, e_X7_forumOf_109__1, e5, l1, a1, wv_le, cv, wx_bd, wx_let, wx_st, wx_lit, wx_ga, wx_sa, pk_mul, nI_add, wx_le, wx_lt, wx_eq, wx_en, wx_ne', wx_nn, wx_ltn, wx_len, wx_nlt, wx_nle, wx_bz0, wx_bz1, if_pos, if_neg, wx_ite, Nat.reduceEqDiff, eq_self, if_true, if_false, not_true_eq_false, not_false_eq_true]
              exact r1
            · simp -implicitDefEqProofs (disch := omega) only [e_X12_forum_30, e_X12_forum_30__1, e_X12_forum_30__2, e_X12_forum_30__3, e_X12_forum_76, e_X12_forum_76__1, e_X12_forum_76__2, e_X12_forum_97, e_X12_forum_100, e_X12_forum_100__1, f5, l2, a2, b2, wv_lt, wx_bd, wx_let, wx_st, wx_lit, wx_ga, wx_sa, pk_mul, nI_add, wx_le, wx_lt, wx_eq, wx_en, wx_ne', wx_nn, wx_ltn, wx_len, wx_nlt, wx_nle, wx_bz0, wx_bz1, if_pos, if_neg, wx_ite, Nat.reduceEqDiff, eq_self, if_true, if_false, not_true_eq_false, not_false_eq_true]
              exact r2
          · obtain ⟨r, σ'', τ'', r1, r2, r3, r4⟩ := ih (i + 1) n m σ1 τ2 (nI i) (nI (V c i) - nI 999) (by omega) (by omega) (by omega) a3 b4 (Or.inr ⟨i, hij, rfl, rfl⟩)
            refine ⟨r, σ'', τ'', ?_, ?_, r3, r4⟩
            · simp -implicitDefEqProofs (disch := omega) only [e_X7_forumOf_8, e_X7_forumOf_8__1, e_X7_forumOf_8__2, e_X7_forumOf_90, e_X7_forumOf_102, e_X7_forumOf_109, e_X7_forumOf_109__1, e5, l1, a1, wv_le, cv, wx_bd, wx_let, wx_st, wx_lit, wx_ga, wx_sa, pk_mul, nI_add, wx_le, wx_lt, wx_eq, wx_en, wx_ne', wx_nn, wx_ltn, wx_len, wx_nlt, wx_nle, wx_bz0, wx_bz1, if_pos, if_neg, wx_ite, Nat.reduceEqDiff, eq_self, if_true, if_false, not_true_eq_false, not_false_eq_true]
              exact r1
            · simp -implicitDefEqProofs (disch := omega) only [e_X12_forum_30, e_X12_forum_30__1, e_X12_forum_30__2, e_X12_forum_30__3, e_X12_forum_76, e_X12_forum_76__1, e_X12_forum_76__2, e_X12_forum_97, e_X12_forum_100, e_X12_forum_100__1, f5, l2, a2, b2, wv_lt, wx_bd, wx_let, wx_st, wx_lit, wx_ga, wx_sa, pk_mul, nI_add, wx_le, wx_lt, wx_eq, wx_en, wx_ne', wx_nn, wx_ltn, wx_len, wx_nlt, wx_nle, wx_bz0, wx_bz1, if_pos, if_neg, wx_ite, Nat.reduceEqDiff, eq_self, if_true, if_false, not_true_eq_false, not_false_eq_true]
              exact r2
        · by_cases cv : V c b ≤ V c i
          · obtain ⟨r, σ'', τ'', r1, r2, r3, r4⟩ := ih (i + 1) n m σ1 τ2 (nI b) (nI (V c b) - nI 999) (by omega) (by omega) (by omega) a3 b4 (Or.inr ⟨b, hb, rfl, rfl⟩)
            refine ⟨r, σ'', τ'', ?_, ?_, r3, r4⟩
            · simp -implicitDefEqProofs (disch := omega) only [e_X7_forumOf_8, e_X7_forumOf_8__1, e_X7_forumOf_8__2, e_X7_forumOf_90, e_X7_forumOf_102, e_X7_forumOf_109, e_X7_forumOf_109__1, e5, l1, a1, wv_le, cv, wx_bd, wx_let, wx_st, wx_lit, wx_ga, wx_sa, pk_mul, nI_add, wx_le, wx_lt, wx_eq, wx_en, wx_ne', wx_nn, wx_ltn, wx_len, wx_nlt, wx_nle, wx_bz0, wx_bz1, if_pos, if_neg, wx_ite, Nat.reduceEqDiff, eq_self, if_true, if_false, not_true_eq_false, not_false_eq_true]
              exact r1
            · simp -implicitDefEqProofs (disch := omega) only [e_X12_forum_30, e_X12_forum_30__1, e_X12_forum_30__2, e_X12_forum_30__3, e_X12_forum_76, e_X12_forum_76__1, e_X12_forum_76__2, e_X12_forum_97, e_X12_forum_100, e_X12_forum_100__1, f5, l2, a2, b2, wv_le, cv, wx_bd, wx_let, wx_st, wx_lit, wx_ga, wx_sa, pk_mul, nI_add, wx_le, wx_lt, wx_eq, wx_en, wx_ne', wx_nn, wx_ltn, wx_len, wx_nlt, wx_nle, wx_bz0, wx_bz1, if_pos, if_neg, wx_ite, Nat.reduceEqDiff, eq_self, if_true, if_false, not_true_eq_false, not_false_eq_true]
              exact r2
          · obtain ⟨r, σ'', τ'', r1, r2, r3, r4⟩ := ih (i + 1) n m σ1 τ2 (nI i) (nI (V c i) - nI 999) (by omega) (by omega) (by omega) a3 b4 (Or.inr ⟨i, hij, rfl, rfl⟩)
            refine ⟨r, σ'', τ'', ?_, ?_, r3, r4⟩
            · simp -implicitDefEqProofs (disch := omega) only [e_X7_forumOf_8, e_X7_forumOf_8__1, e_X7_forumOf_8__2, e_X7_forumOf_90, e_X7_forumOf_102, e_X7_forumOf_109, e_X7_forumOf_109__1, e5, l1, a1, wv_le, cv, wx_bd, wx_let, wx_st, wx_lit, wx_ga, wx_sa, pk_mul, nI_add, wx_le, wx_lt, wx_eq, wx_en, wx_ne', wx_nn, wx_ltn, wx_len, wx_nlt, wx_nle, wx_bz0, wx_bz1, if_pos, if_neg, wx_ite, Nat.reduceEqDiff, eq_self, if_true, if_false, not_true_eq_false, not_false_eq_true]
              exact r1
            · simp -implicitDefEqProofs (disch := omega) only [e_X12_forum_30, e_X12_forum_30__1, e_X12_forum_30__2, e_X12_forum_30__3, e_X12_forum_76, e_X12_forum_76__1, e_X12_forum_76__2, e_X12_forum_97, e_X12_forum_100, e_X12_forum_100__1, f5, l2, a2, b2, wv_le, cv, wx_bd, wx_let, wx_st, wx_lit, wx_ga, wx_sa, pk_mul, nI_add, wx_le, wx_lt, wx_eq, wx_en, wx_ne', wx_nn, wx_ltn, wx_len, wx_nlt, wx_nle, wx_bz0, wx_bz1, if_pos, if_neg, wx_ite, Nat.reduceEqDiff, eq_self, if_true, if_false, not_true_eq_false, not_false_eq_true]
              exact r2
    · have l1 := l1 σ' s1
      have l2 := l2 τ' s2
      obtain ⟨r, σ'', τ'', r1, r2, r3, r4⟩ := ih (i + 1) n m σ' τ' x f (by omega) (by omega) (by omega) s1 s2 hx
      refine ⟨r, σ'', τ'', ?_, ?_, r3, r4⟩
      · simp -implicitDefEqProofs (disch := omega) only [e_X7_forumOf_8, e_X7_forumOf_8__1, e_X7_forumOf_8__2, e_X7_forumOf_109, e_X7_forumOf_109__1, e5, l1, wx_bd, wx_let, wx_st, wx_lit, wx_ga, wx_sa, pk_mul, nI_add, wx_le, wx_lt, wx_eq, wx_en, wx_ne', wx_nn, wx_ltn, wx_len, wx_nlt, wx_nle, wx_bz0, wx_bz1, if_pos, if_neg, wx_ite, Nat.reduceEqDiff, eq_self, if_true, if_false, not_true_eq_false, not_false_eq_true]
        exact r1
      · simp -implicitDefEqProofs (disch := omega) only [e_X12_forum_30, e_X12_forum_30__1, e_X12_forum_30__2, e_X12_forum_30__3, e_X12_forum_100, e_X12_forum_100__1, f5, l2, wx_bd, wx_let, wx_st, wx_lit, wx_ga, wx_sa, pk_mul, nI_add, wx_le, wx_lt, wx_eq, wx_en, wx_ne', wx_nn, wx_ltn, wx_len, wx_nlt, wx_nle, wx_bz0, wx_bz1, if_pos, if_neg, wx_ite, Nat.reduceEqDiff, eq_self, if_true, if_false, not_true_eq_false, not_false_eq_true]
        exact r2
set_option maxHeartbeats 1000000 in
theorem wl_apart_l (h : wB nw nj nc σ 1 (τ 1) τ) (hN : wN nw nj nc τ) {a b : Nat} (ha : a < nw) (hb : b < nw) : ∀ d i n m s, i + d = 8 → d < n → d < m → ∃ r, f_X9_apart_5 n 2 (nI a) (nI b) s (nI i) σ = some (r, σ) ∧ f_X12_unlike_5 m 0 (nI a) (nI b) s (nI i) τ = some (r, τ) := by
  intro d
  induction d with
  | zero =>
    intro i n m s hi hn hm
    obtain ⟨n, rfl⟩ : ∃ k, n = k + 1 := ⟨n - 1, by omega⟩
    obtain ⟨m, rfl⟩ : ∃ k, m = k + 1 := ⟨m - 1, by omega⟩
    refine ⟨s, ?_, ?_⟩
    · simp -implicitDefEqProofs (disch := omega) only [e_X9_apart_5, e_X9_apart_5__1, e_X9_apart_5__2, e_X9_apart_5__3, e_X9_apart_5__4, e_X9_apart_5__5, wx_bd, wx_let, wx_st, wx_lit, wx_ga, wx_sa, pk_mul, nI_add, wx_le, wx_lt, wx_eq, wx_en, wx_ne', wx_nn, wx_ltn, wx_len, wx_nlt, wx_nle, wx_bz0, wx_bz1, if_pos, if_neg, wx_ite, Nat.reduceEqDiff, eq_self, if_true, if_false, not_true_eq_false, not_false_eq_true]
    · simp -implicitDefEqProofs (disch := omega) only [e_X12_unlike_5, e_X12_unlike_5__1, e_X12_unlike_5__2, e_X12_unlike_5__3, wx_bd, wx_let, wx_st, wx_lit, wx_ga, wx_sa, pk_mul, nI_add, wx_le, wx_lt, wx_eq, wx_en, wx_ne', wx_nn, wx_ltn, wx_len, wx_nlt, wx_nle, wx_bz0, wx_bz1, if_pos, if_neg, wx_ite, Nat.reduceEqDiff, eq_self, if_true, if_false, not_true_eq_false, not_false_eq_true]
  | succ d ih =>
    intro i n m s hi hn hm
    obtain ⟨n, rfl⟩ : ∃ k, n = k + 1 := ⟨n - 1, by omega⟩
    obtain ⟨m, rfl⟩ : ∃ k, m = k + 1 := ⟨m - 1, by omega⟩
    obtain ⟨x, x1, x2⟩ := wl_rulingsOn h hN ha (nI i)
    obtain ⟨y, y1, y2⟩ := wl_rulingsOn h hN hb (nI i)
    by_cases c : nI 0 ≤ x - y
    · obtain ⟨r, r1, r2⟩ := ih (i + 1) n m (s + (x - y)) (by omega) (by omega) (by omega)
      refine ⟨r, ?_, ?_⟩
      · simp -implicitDefEqProofs (disch := omega) only [e_X9_apart_5, e_X9_apart_5__1, e_X9_apart_5__2, e_X9_apart_5__3, e_X9_apart_5__4, e_X9_apart_5__5, x1, y1, f_J9_abs_0f7a4, c, wx_bd, wx_let, wx_st, wx_lit, wx_ga, wx_sa, pk_mul, nI_add, wx_le, wx_lt, wx_eq, wx_en, wx_ne', wx_nn, wx_ltn, wx_len, wx_nlt, wx_nle, wx_bz0, wx_bz1, if_pos, if_neg, wx_ite, Nat.reduceEqDiff, eq_self, if_true, if_false, not_true_eq_false, not_false_eq_true]
        exact r1
      · simp -implicitDefEqProofs (disch := omega) only [e_X12_unlike_5, e_X12_unlike_5__1, e_X12_unlike_5__2, e_X12_unlike_5__3, e_X12_unlike_43, e_X12_unlike_43__1, e_X12_unlike_43__2, x2, y2, c, wx_bd, wx_let, wx_st, wx_lit, wx_ga, wx_sa, pk_mul, nI_add, wx_le, wx_lt, wx_eq, wx_en, wx_ne', wx_nn, wx_ltn, wx_len, wx_nlt, wx_nle, wx_bz0, wx_bz1, if_pos, if_neg, wx_ite, Nat.reduceEqDiff, eq_self, if_true, if_false, not_true_eq_false, not_false_eq_true]
        exact r2
    · obtain ⟨r, r1, r2⟩ := ih (i + 1) n m (s + -(x - y)) (by omega) (by omega) (by omega)
      refine ⟨r, ?_, ?_⟩
      · simp -implicitDefEqProofs (disch := omega) only [e_X9_apart_5, e_X9_apart_5__1, e_X9_apart_5__2, e_X9_apart_5__3, e_X9_apart_5__4, e_X9_apart_5__5, x1, y1, f_J9_abs_0f7a4, c, wx_bd, wx_let, wx_st, wx_lit, wx_ga, wx_sa, pk_mul, nI_add, wx_le, wx_lt, wx_eq, wx_en, wx_ne', wx_nn, wx_ltn, wx_len, wx_nlt, wx_nle, wx_bz0, wx_bz1, if_pos, if_neg, wx_ite, Nat.reduceEqDiff, eq_self, if_true, if_false, not_true_eq_false, not_false_eq_true]
        exact r1
      · simp -implicitDefEqProofs (disch := omega) only [e_X12_unlike_5, e_X12_unlike_5__1, e_X12_unlike_5__2, e_X12_unlike_5__3, e_X12_unlike_43, e_X12_unlike_43__1, e_X12_unlike_43__2, x2, y2, c, wx_bd, wx_let, wx_st, wx_lit, wx_ga, wx_sa, pk_mul, nI_add, wx_le, wx_lt, wx_eq, wx_en, wx_ne', wx_nn, wx_ltn, wx_len, wx_nlt, wx_nle, wx_bz0, wx_bz1, if_pos, if_neg, wx_ite, Nat.reduceEqDiff, eq_self, if_true, if_false, not_true_eq_false, not_false_eq_true]
        exact r2
set_option maxHeartbeats 1000000 in
theorem wl_apart (h : wB nw nj nc σ 1 (τ 1) τ) (hN : wN nw nj nc τ) {a b : Nat} (ha : a < nw) (hb : b < nw) : ∃ r, f_X9_apart 2 (nI a) (nI b) σ = some (r, σ) ∧ f_X12_unlike 0 (nI a) (nI b) τ = some (r, τ) :=
  wl_apart_l h hN ha hb 8 0 wg_N wg_N 0 (by omega) (by rw [wx_N]; omega) (by rw [wx_N]; omega)
set_option maxHeartbeats 1000000 in
theorem wl_nearest_l (h : wB nw nj nc σ 1 (τ 1) τ) (hN : wN nw nj nc τ) {a : Nat} (ha : a < nw) : ∀ d i n m x f, i + d = nw → d < n → d < m → (x = -nI 1 ∨ ∃ b, b < nw ∧ x = nI b ∧ f_X9_apart 2 (nI a) (nI b) σ = some (f, σ)) → ∃ r, f_X9_nearest_7 n 2 (nI a) x f (nI i) σ = some (r, σ) ∧ f_X12_alike_45 m 0 (nI a) x (nI i) τ = some (r, τ) := by
  obtain ⟨n1, n2, n3, n4, n5, n6⟩ := id hN
  have e8 := wb_nw h
  intro d
  induction d with
  | zero =>
    intro i n m x f hi hn hm hx
    obtain ⟨n, rfl⟩ : ∃ k, n = k + 1 := ⟨n - 1, by omega⟩
    obtain ⟨m, rfl⟩ : ∃ k, m = k + 1 := ⟨m - 1, by omega⟩
    refine ⟨x, ?_, ?_⟩
    · simp -implicitDefEqProofs (disch := omega) only [e_X9_nearest_7, e_X9_nearest_7__1, e8, wx_bd, wx_let, wx_st, wx_lit, wx_ga, wx_sa, pk_mul, nI_add, wx_le, wx_lt, wx_eq, wx_en, wx_ne', wx_nn, wx_ltn, wx_len, wx_nlt, wx_nle, wx_bz0, wx_bz1, if_pos, if_neg, wx_ite, Nat.reduceEqDiff, eq_self, if_true, if_false, not_true_eq_false, not_false_eq_true]
    · simp -implicitDefEqProofs (disch := omega) only [e_X12_alike_45, e_X12_alike_45__1, e_X12_alike_45__2, n4, wx_bd, wx_let, wx_st, wx_lit, wx_ga, wx_sa, pk_mul, nI_add, wx_le, wx_lt, wx_eq, wx_en, wx_ne', wx_nn, wx_ltn, wx_len, wx_nlt, wx_nle, wx_bz0, wx_bz1, if_pos, if_neg, wx_ite, Nat.reduceEqDiff, eq_self, if_true, if_false, not_true_eq_false, not_false_eq_true]
  | succ d ih =>
    intro i n m x f hi hn hm hx
    obtain ⟨n, rfl⟩ : ∃ k, n = k + 1 := ⟨n - 1, by omega⟩
    obtain ⟨m, rfl⟩ : ∃ k, m = k + 1 := ⟨m - 1, by omega⟩
    have hij : i < nw := by omega
    obtain ⟨y, y1, y2⟩ := wl_apart h hN ha hij
    by_cases ca : i = a
    · subst ca
      obtain ⟨r, r1, r2⟩ := ih (i + 1) n m x f (by omega) (by omega) (by omega) hx
      refine ⟨r, ?_, ?_⟩
      · simp -implicitDefEqProofs (disch := omega) only [e_X9_nearest_7, e_X9_nearest_7__1, e_X9_nearest_48, e_X9_nearest_48__1, e8, y1, wx_bd, wx_let, wx_st, wx_lit, wx_ga, wx_sa, pk_mul, nI_add, wx_le, wx_lt, wx_eq, wx_en, wx_ne', wx_nn, wx_ltn, wx_len, wx_nlt, wx_nle, wx_bz0, wx_bz1, if_pos, if_neg, wx_ite, Nat.reduceEqDiff, eq_self, if_true, if_false, not_true_eq_false, not_false_eq_true]
        exact r1
      · simp -implicitDefEqProofs (disch := omega) only [e_X12_alike_45, e_X12_alike_45__1, e_X12_alike_45__2, e_X12_alike_84, e_X12_alike_84__1, n4, wx_bd, wx_let, wx_st, wx_lit, wx_ga, wx_sa, pk_mul, nI_add, wx_le, wx_lt, wx_eq, wx_en, wx_ne', wx_nn, wx_ltn, wx_len, wx_nlt, wx_nle, wx_bz0, wx_bz1, if_pos, if_neg, wx_ite, Nat.reduceEqDiff, eq_self, if_true, if_false, not_true_eq_false, not_false_eq_true]
        exact r2
    · rcases hx with rfl | ⟨b, hb, rfl, hf⟩
      · obtain ⟨r, r1, r2⟩ := ih (i + 1) n m (nI i) y (by omega) (by omega) (by omega) (Or.inr ⟨i, hij, rfl, y1⟩)
        refine ⟨r, ?_, ?_⟩
        · simp -implicitDefEqProofs (disch := omega) only [e_X9_nearest_7, e_X9_nearest_7__1, e_X9_nearest_42, e_X9_nearest_48, e_X9_nearest_48__1, e8, y1, wx_bd, wx_let, wx_st, wx_lit, wx_ga, wx_sa, pk_mul, nI_add, wx_le, wx_lt, wx_eq, wx_en, wx_ne', wx_nn, wx_ltn, wx_len, wx_nlt, wx_nle, wx_bz0, wx_bz1, if_pos, if_neg, wx_ite, Nat.reduceEqDiff, eq_self, if_true, if_false, not_true_eq_false, not_false_eq_true]
          exact r1
        · simp -implicitDefEqProofs (disch := omega) only [e_X12_alike_45, e_X12_alike_45__1, e_X12_alike_45__2, e_X12_alike_81, e_X12_alike_84, e_X12_alike_84__1, n4, wx_bd, wx_let, wx_st, wx_lit, wx_ga, wx_sa, pk_mul, nI_add, wx_le, wx_lt, wx_eq, wx_en, wx_ne', wx_nn, wx_ltn, wx_len, wx_nlt, wx_nle, wx_bz0, wx_bz1, if_pos, if_neg, wx_ite, Nat.reduceEqDiff, eq_self, if_true, if_false, not_true_eq_false, not_false_eq_true]
          exact r2
      · obtain ⟨z, z1, z2⟩ := wl_apart h hN ha hb
        rw [hf] at z1
        simp only [Option.some.injEq, Prod.mk.injEq, and_true] at z1
        subst z1
        by_cases cv : f ≤ y
        · obtain ⟨r, r1, r2⟩ := ih (i + 1) n m (nI b) f (by omega) (by omega) (by omega) (Or.inr ⟨b, hb, rfl, hf⟩)
          refine ⟨r, ?_, ?_⟩
          · simp -implicitDefEqProofs (disch := omega) only [e_X9_nearest_7, e_X9_nearest_7__1, e_X9_nearest_42, e_X9_nearest_48, e_X9_nearest_48__1, e8, y1, cv, wx_bd, wx_let, wx_st, wx_lit, wx_ga, wx_sa, pk_mul, nI_add, wx_le, wx_lt, wx_eq, wx_en, wx_ne', wx_nn, wx_ltn, wx_len, wx_nlt, wx_nle, wx_bz0, wx_bz1, if_pos, if_neg, wx_ite, Nat.reduceEqDiff, eq_self, if_true, if_false, not_true_eq_false, not_false_eq_true]
            exact r1
          · simp -implicitDefEqProofs (disch := omega) only [e_X12_alike_45, e_X12_alike_45__1, e_X12_alike_45__2, e_X12_alike_81, e_X12_alike_84, e_X12_alike_84__1, n4, y2, z2, cv, wx_bd, wx_let, wx_st, wx_lit, wx_ga, wx_sa, pk_mul, nI_add, wx_le, wx_lt, wx_eq, wx_en, wx_ne', wx_nn, wx_ltn, wx_len, wx_nlt, wx_nle, wx_bz0, wx_bz1, if_pos, if_neg, wx_ite, Nat.reduceEqDiff, eq_self, if_true, if_false, not_true_eq_false, not_false_eq_true]
            exact r2
        · obtain ⟨r, r1, r2⟩ := ih (i + 1) n m (nI i) y (by omega) (by omega) (by omega) (Or.inr ⟨i, hij, rfl, y1⟩)
          refine ⟨r, ?_, ?_⟩
          · simp -implicitDefEqProofs (disch := omega) only [e_X9_nearest_7, e_X9_nearest_7__1, e_X9_nearest_42, e_X9_nearest_48, e_X9_nearest_48__1, e8, y1, cv, wx_bd, wx_let, wx_st, wx_lit, wx_ga, wx_sa, pk_mul, nI_add, wx_le, wx_lt, wx_eq, wx_en, wx_ne', wx_nn, wx_ltn, wx_len, wx_nlt, wx_nle, wx_bz0, wx_bz1, if_pos, if_neg, wx_ite, Nat.reduceEqDiff, eq_self, if_true, if_false, not_true_eq_false, not_false_eq_true]
            exact r1
          · simp -implicitDefEqProofs (disch := omega) only [e_X12_alike_45, e_X12_alike_45__1, e_X12_alike_45__2, e_X12_alike_81, e_X12_alike_84, e_X12_alike_84__1, n4, y2, z2, cv, wx_bd, wx_let, wx_st, wx_lit, wx_ga, wx_sa, pk_mul, nI_add, wx_le, wx_lt, wx_eq, wx_en, wx_ne', wx_nn, wx_ltn, wx_len, wx_nlt, wx_nle, wx_bz0, wx_bz1, if_pos, if_neg, wx_ite, Nat.reduceEqDiff, eq_self, if_true, if_false, not_true_eq_false, not_false_eq_true]
            exact r2
set_option maxHeartbeats 1000000 in
theorem wl_saves_l (h : wB nw nj nc σ 1 (τ 1) τ) (hN : wN nw nj nc τ) {g : Nat} (q : Int32) (hg : g ≤ 256) (hs : nI 1 <<< (nI nw &&& nI 31) = nI g) (w : Int32) : ∀ d i n m x f, i + d = g → d < n → d < m → f_X9_worthOf 2 x σ = some (f, σ) → ∃ r f', f_X9_toSave_7 n 2 w x f (nI i) σ = some (r, σ) ∧ f_X9_worthOf 2 r σ = some (f', σ) ∧ f_X12_saves_34 m 0 w q x (nI i) τ = some (if q = nI 0 then f' else r, τ) := by
  obtain ⟨n1, n2, n3, n4, n5, n6⟩ := id hN
  have e8 := wb_nw h
  intro d
  induction d with
  | zero =>
    intro i n m x f hi hn hm hx
    obtain ⟨n, rfl⟩ : ∃ k, n = k + 1 := ⟨n - 1, by omega⟩
    obtain ⟨m, rfl⟩ : ∃ k, m = k + 1 := ⟨m - 1, by omega⟩
    refine ⟨x, f, ?_, hx, ?_⟩
    · simp -implicitDefEqProofs (disch := omega) only [e_X9_toSave_7, e_X9_toSave_7__1, e_X9_toSave_7__2, e_X9_toSave_7__3, e8, hs, wx_bd, wx_let, wx_st, wx_lit, wx_ga, wx_sa, pk_mul, nI_add, wx_le, wx_lt, wx_eq, wx_en, wx_ne', wx_nn, wx_ltn, wx_len, wx_nlt, wx_nle, wx_bz0, wx_bz1, if_pos, if_neg, wx_ite, Nat.reduceEqDiff, eq_self, if_true, if_false, not_true_eq_false, not_false_eq_true]
    · obtain ⟨z, z1, z2⟩ := wl_worthOf h hN x
      rw [hx] at z1
      simp only [Option.some.injEq, Prod.mk.injEq, and_true] at z1
      subst z1
      by_cases cq : q = nI 0
      · simp -implicitDefEqProofs (disch := omega) only [e_X12_saves_34, e_X12_saves_34__1, e_X12_saves_34__2, e_X12_saves_34__3, e_X12_saves_34__4, n4, hs, cq, z2, wx_bd, wx_let, wx_st, wx_lit, wx_ga, wx_sa, pk_mul, nI_add, wx_le, wx_lt, wx_eq, wx_en, wx_ne', wx_nn, wx_ltn, wx_len, wx_nlt, wx_nle, wx_bz0, wx_bz1, if_pos, if_neg, wx_ite, Nat.reduceEqDiff, eq_self, if_true, if_false, not_true_eq_false, not_false_eq_true]
      · simp -implicitDefEqProofs (disch := omega) only [e_X12_saves_34, e_X12_saves_34__1, e_X12_saves_34__2, e_X12_saves_34__3, e_X12_saves_34__4, n4, hs, cq, z2, wx_bd, wx_let, wx_st, wx_lit, wx_ga, wx_sa, pk_mul, nI_add, wx_le, wx_lt, wx_eq, wx_en, wx_ne', wx_nn, wx_ltn, wx_len, wx_nlt, wx_nle, wx_bz0, wx_bz1, if_pos, if_neg, wx_ite, Nat.reduceEqDiff, eq_self, if_true, if_false, not_true_eq_false, not_false_eq_true]
  | succ d ih =>
    intro i n m x f hi hn hm hx
    obtain ⟨n, rfl⟩ : ∃ k, n = k + 1 := ⟨n - 1, by omega⟩
    obtain ⟨m, rfl⟩ : ∃ k, m = k + 1 := ⟨m - 1, by omega⟩
    obtain ⟨z, z1, z2⟩ := wl_worthOf h hN x
    rw [hx] at z1
    simp only [Option.some.injEq, Prod.mk.injEq, and_true] at z1
    subst z1
    obtain ⟨a, a1, a2⟩ := wl_hairOf h hN (nI i)
    obtain ⟨b, b1, b2⟩ := wl_worthOf h hN (nI i)
    by_cases ca : w < a
    · obtain ⟨r, f', r1, r2, r3⟩ := ih (i + 1) n m x f (by omega) (by omega) (by omega) hx
      refine ⟨r, f', ?_, r2, ?_⟩
      · simp -implicitDefEqProofs (disch := omega) only [e_X9_toSave_7, e_X9_toSave_7__1, e_X9_toSave_7__2, e_X9_toSave_7__3, e_X9_toSave_48, e_X9_toSave_48__1, e8, hs, a1, ca, wx_bd, wx_let, wx_st, wx_lit, wx_ga, wx_sa, pk_mul, nI_add, wx_le, wx_lt, wx_eq, wx_en, wx_ne', wx_nn, wx_ltn, wx_len, wx_nlt, wx_nle, wx_bz0, wx_bz1, if_pos, if_neg, wx_ite, Nat.reduceEqDiff, eq_self, if_true, if_false, not_true_eq_false, not_false_eq_true]
        exact r1
      · simp -implicitDefEqProofs (disch := omega) only [e_X12_saves_34, e_X12_saves_34__1, e_X12_saves_34__2, e_X12_saves_34__3, e_X12_saves_34__4, e_X12_saves_72, e_X12_saves_72__1, n4, hs, a2, ca, wx_bd, wx_let, wx_st, wx_lit, wx_ga, wx_sa, pk_mul, nI_add, wx_le, wx_lt, wx_eq, wx_en, wx_ne', wx_nn, wx_ltn, wx_len, wx_nlt, wx_nle, wx_bz0, wx_bz1, if_pos, if_neg, wx_ite, Nat.reduceEqDiff, eq_self, if_true, if_false, not_true_eq_false, not_false_eq_true]
        exact r3
    · by_cases cb : b ≤ f
      · obtain ⟨r, f', r1, r2, r3⟩ := ih (i + 1) n m x f (by omega) (by omega) (by omega) hx
        refine ⟨r, f', ?_, r2, ?_⟩
        · simp -implicitDefEqProofs (disch := omega) only [e_X9_toSave_7, e_X9_toSave_7__1, e_X9_toSave_7__2, e_X9_toSave_7__3, e_X9_toSave_48, e_X9_toSave_48__1, e8, hs, a1, b1, ca, cb, wx_bd, wx_let, wx_st, wx_lit, wx_ga, wx_sa, pk_mul, nI_add, wx_le, wx_lt, wx_eq, wx_en, wx_ne', wx_nn, wx_ltn, wx_len, wx_nlt, wx_nle, wx_bz0, wx_bz1, if_pos, if_neg, wx_ite, Nat.reduceEqDiff, eq_self, if_true, if_false, not_true_eq_false, not_false_eq_true]
          exact r1
        · simp -implicitDefEqProofs (disch := omega) only [e_X12_saves_34, e_X12_saves_34__1, e_X12_saves_34__2, e_X12_saves_34__3, e_X12_saves_34__4, e_X12_saves_72, e_X12_saves_72__1, n4, hs, a2, b2, z2, ca, cb, wx_bd, wx_let, wx_st, wx_lit, wx_ga, wx_sa, pk_mul, nI_add, wx_le, wx_lt, wx_eq, wx_en, wx_ne', wx_nn, wx_ltn, wx_len, wx_nlt, wx_nle, wx_bz0, wx_bz1, if_pos, if_neg, wx_ite, Nat.reduceEqDiff, eq_self, if_true, if_false, not_true_eq_false, not_false_eq_true]
          exact r3
      · obtain ⟨r, f', r1, r2, r3⟩ := ih (i + 1) n m (nI i) b (by omega) (by omega) (by omega) b1
        refine ⟨r, f', ?_, r2, ?_⟩
        · simp -implicitDefEqProofs (disch := omega) only [e_X9_toSave_7, e_X9_toSave_7__1, e_X9_toSave_7__2, e_X9_toSave_7__3, e_X9_toSave_48, e_X9_toSave_48__1, e8, hs, a1, b1, ca, cb, wx_bd, wx_let, wx_st, wx_lit, wx_ga, wx_sa, pk_mul, nI_add, wx_le, wx_lt, wx_eq, wx_en, wx_ne', wx_nn, wx_ltn, wx_len, wx_nlt, wx_nle, wx_bz0, wx_bz1, if_pos, if_neg, wx_ite, Nat.reduceEqDiff, eq_self, if_true, if_false, not_true_eq_false, not_false_eq_true]
          exact r1
        · simp -implicitDefEqProofs (disch := omega) only [e_X12_saves_34, e_X12_saves_34__1, e_X12_saves_34__2, e_X12_saves_34__3, e_X12_saves_34__4, e_X12_saves_72, e_X12_saves_72__1, n4, hs, a2, b2, z2, ca, cb, wx_bd, wx_let, wx_st, wx_lit, wx_ga, wx_sa, pk_mul, nI_add, wx_le, wx_lt, wx_eq, wx_en, wx_ne', wx_nn, wx_ltn, wx_len, wx_nlt, wx_nle, wx_bz0, wx_bz1, if_pos, if_neg, wx_ite, Nat.reduceEqDiff, eq_self, if_true, if_false, not_true_eq_false, not_false_eq_true]
          exact r3
set_option maxHeartbeats 1000000 in
theorem wl_xor_l (h : wB nw nj nc σ 1 (τ 1) τ) (hN : wN nw nj nc τ) {q : Nat} (hq : q ≤ 1) (x : Int32) : ∀ d i n m, i + d = nw → d < n → d < m → ∃ r, f_X9_wellPulled_29 n 2 (nI (1 - q)) x (nI i) σ = some (r, σ) ∧ f_X12_game_49 m 0 (nI q) x (nI i) τ = some (r, τ) := by
  obtain ⟨n1, n2, n3, n4, n5, n6⟩ := id hN
  have e8 := wb_nw h
  intro d
  induction d with
  | zero =>
    intro i n m hi hn hm
    obtain ⟨n, rfl⟩ : ∃ k, n = k + 1 := ⟨n - 1, by omega⟩
    obtain ⟨m, rfl⟩ : ∃ k, m = k + 1 := ⟨m - 1, by omega⟩
    refine ⟨-nI 1, ?_, ?_⟩
    · simp -implicitDefEqProofs (disch := omega) only [e_X9_wellPulled_29, e_X9_wellPulled_29__1, e_X9_wellPulled_29__2, e_X9_wellPulled_29__3, e_X9_wellPulled_29__4, e_X9_wellPulled_29__5, e8, wx_bd, wx_let, wx_st, wx_lit, wx_ga, wx_sa, pk_mul, nI_add, wx_le, wx_lt, wx_eq, wx_en, wx_ne', wx_nn, wx_ltn, wx_len, wx_nlt, wx_nle, wx_bz0, wx_bz1, if_pos, if_neg, wx_ite, Nat.reduceEqDiff, eq_self, if_true, if_false, not_true_eq_false, not_false_eq_true]
    · simp -implicitDefEqProofs (disch := omega) only [e_X12_game_49, e_X12_game_49__1, e_X12_game_49__2, e_X12_game_49__3, e_X12_game_49__4, e_X12_game_49__5, n4, wx_bd, wx_let, wx_st, wx_lit, wx_ga, wx_sa, pk_mul, nI_add, wx_le, wx_lt, wx_eq, wx_en, wx_ne', wx_nn, wx_ltn, wx_len, wx_nlt, wx_nle, wx_bz0, wx_bz1, if_pos, if_neg, wx_ite, Nat.reduceEqDiff, eq_self, if_true, if_false, not_true_eq_false, not_false_eq_true]
  | succ d ih =>
    intro i n m hi hn hm
    obtain ⟨n, rfl⟩ : ∃ k, n = k + 1 := ⟨n - 1, by omega⟩
    obtain ⟨m, rfl⟩ : ∃ k, m = k + 1 := ⟨m - 1, by omega⟩
    have hij : i < nw := by omega
    have e7 := wb_rules h hij
    by_cases c : τ 1 (67 + i) ≤ τ 1 (67 + i) ^^^ x
    · obtain ⟨r, r1, r2⟩ := ih (i + 1) n m (by omega) (by omega) (by omega)
      refine ⟨r, ?_, ?_⟩
      · simp -implicitDefEqProofs (disch := omega) only [e_X9_wellPulled_29, e_X9_wellPulled_29__1, e_X9_wellPulled_29__2, e_X9_wellPulled_29__3, e_X9_wellPulled_29__4, e_X9_wellPulled_29__5, e8, e7, c, wx_bd, wx_let, wx_st, wx_lit, wx_ga, wx_sa, pk_mul, nI_add, wx_le, wx_lt, wx_eq, wx_en, wx_ne', wx_nn, wx_ltn, wx_len, wx_nlt, wx_nle, wx_bz0, wx_bz1, if_pos, if_neg, wx_ite, Nat.reduceEqDiff, eq_self, if_true, if_false, not_true_eq_false, not_false_eq_true]
        exact r1
      · simp -implicitDefEqProofs (disch := omega) only [e_X12_game_49, e_X12_game_49__1, e_X12_game_49__2, e_X12_game_49__3, e_X12_game_49__4, e_X12_game_49__5, n4, c, wx_bd, wx_let, wx_st, wx_lit, wx_ga, wx_sa, pk_mul, nI_add, wx_le, wx_lt, wx_eq, wx_en, wx_ne', wx_nn, wx_ltn, wx_len, wx_nlt, wx_nle, wx_bz0, wx_bz1, if_pos, if_neg, wx_ite, Nat.reduceEqDiff, eq_self, if_true, if_false, not_true_eq_false, not_false_eq_true]
        exact r2
    · rcases (show q = 0 ∨ q = 1 by omega) with rfl | rfl
      · refine ⟨nI i, ?_, ?_⟩
        · simp -implicitDefEqProofs (disch := omega) only [e_X9_wellPulled_29, e_X9_wellPulled_29__1, e_X9_wellPulled_29__2, e_X9_wellPulled_29__3, e_X9_wellPulled_29__4, e_X9_wellPulled_29__5, e8, e7, c, Nat.sub_zero, wx_bd, wx_let, wx_st, wx_lit, wx_ga, wx_sa, pk_mul, nI_add, wx_le, wx_lt, wx_eq, wx_en, wx_ne', wx_nn, wx_ltn, wx_len, wx_nlt, wx_nle, wx_bz0, wx_bz1, if_pos, if_neg, wx_ite, Nat.reduceEqDiff, eq_self, if_true, if_false, not_true_eq_false, not_false_eq_true]
        · simp -implicitDefEqProofs (disch := omega) only [e_X12_game_49, e_X12_game_49__1, e_X12_game_49__2, e_X12_game_49__3, e_X12_game_49__4, e_X12_game_49__5, n4, c, wx_bd, wx_let, wx_st, wx_lit, wx_ga, wx_sa, pk_mul, nI_add, wx_le, wx_lt, wx_eq, wx_en, wx_ne', wx_nn, wx_ltn, wx_len, wx_nlt, wx_nle, wx_bz0, wx_bz1, if_pos, if_neg, wx_ite, Nat.reduceEqDiff, eq_self, if_true, if_false, not_true_eq_false, not_false_eq_true]
      · refine ⟨τ 1 (67 + i) - (τ 1 (67 + i) ^^^ x), ?_, ?_⟩
        · simp -implicitDefEqProofs (disch := omega) only [e_X9_wellPulled_29, e_X9_wellPulled_29__1, e_X9_wellPulled_29__2, e_X9_wellPulled_29__3, e_X9_wellPulled_29__4, e_X9_wellPulled_29__5, e8, e7, c, Nat.sub_self, wx_bd, wx_let, wx_st, wx_lit, wx_ga, wx_sa, pk_mul, nI_add, wx_le, wx_lt, wx_eq, wx_en, wx_ne', wx_nn, wx_ltn, wx_len, wx_nlt, wx_nle, wx_bz0, wx_bz1, if_pos, if_neg, wx_ite, Nat.reduceEqDiff, eq_self, if_true, if_false, not_true_eq_false, not_false_eq_true]
        · simp -implicitDefEqProofs (disch := omega) only [e_X12_game_49, e_X12_game_49__1, e_X12_game_49__2, e_X12_game_49__3, e_X12_game_49__4, e_X12_game_49__5, n4, c, wx_bd, wx_let, wx_st, wx_lit, wx_ga, wx_sa, pk_mul, nI_add, wx_le, wx_lt, wx_eq, wx_en, wx_ne', wx_nn, wx_ltn, wx_len, wx_nlt, wx_nle, wx_bz0, wx_bz1, if_pos, if_neg, wx_ite, Nat.reduceEqDiff, eq_self, if_true, if_false, not_true_eq_false, not_false_eq_true]
set_option maxHeartbeats 1000000 in
theorem wl_game_l (h : wB nw nj nc σ 1 (τ 1) τ) (hN : wN nw nj nc τ) {q : Nat} (hq : q ≤ 1) : ∀ d i n m x, i + d = nw → d < n → d < m → ∃ r, f_X9_wellPulled_4 n 2 (nI (1 - q)) x (nI i) σ = some (r, σ) ∧ f_X12_game_21 m 0 (nI q) x (nI i) τ = some (r, τ) := by
  obtain ⟨n1, n2, n3, n4, n5, n6⟩ := id hN
  have e8 := wb_nw h
  intro d
  induction d with
  | zero =>
    intro i n m x hi hn hm
    obtain ⟨n, rfl⟩ : ∃ k, n = k + 1 := ⟨n - 1, by omega⟩
    obtain ⟨m, rfl⟩ : ∃ k, m = k + 1 := ⟨m - 1, by omega⟩
    obtain ⟨r, r1, r2⟩ := wl_xor_l h hN hq x nw 0 wg_N wg_N (by omega) (by rw [wx_N]; omega) (by rw [wx_N]; omega)
    refine ⟨r, ?_, ?_⟩
    · simp -implicitDefEqProofs (disch := omega) only [e_X9_wellPulled_4, e_X9_wellPulled_4__1, e_X9_wellPulled_4__2, e_X9_wellPulled_4__3, e8, wx_bd, wx_let, wx_st, wx_lit, wx_ga, wx_sa, pk_mul, nI_add, wx_le, wx_lt, wx_eq, wx_en, wx_ne', wx_nn, wx_ltn, wx_len, wx_nlt, wx_nle, wx_bz0, wx_bz1, if_pos, if_neg, wx_ite, Nat.reduceEqDiff, eq_self, if_true, if_false, not_true_eq_false, not_false_eq_true]
      exact r1
    · simp -implicitDefEqProofs (disch := omega) only [e_X12_game_21, e_X12_game_21__1, e_X12_game_21__2, e_X12_game_21__3, n4, wx_bd, wx_let, wx_st, wx_lit, wx_ga, wx_sa, pk_mul, nI_add, wx_le, wx_lt, wx_eq, wx_en, wx_ne', wx_nn, wx_ltn, wx_len, wx_nlt, wx_nle, wx_bz0, wx_bz1, if_pos, if_neg, wx_ite, Nat.reduceEqDiff, eq_self, if_true, if_false, not_true_eq_false, not_false_eq_true]
      exact r2
  | succ d ih =>
    intro i n m x hi hn hm
    obtain ⟨n, rfl⟩ : ∃ k, n = k + 1 := ⟨n - 1, by omega⟩
    obtain ⟨m, rfl⟩ : ∃ k, m = k + 1 := ⟨m - 1, by omega⟩
    have hij : i < nw := by omega
    have e7 := wb_rules h hij
    obtain ⟨r, r1, r2⟩ := ih (i + 1) n m (x ^^^ τ 1 (67 + i)) (by omega) (by omega) (by omega)
    refine ⟨r, ?_, ?_⟩
    · simp -implicitDefEqProofs (disch := omega) only [e_X9_wellPulled_4, e_X9_wellPulled_4__1, e_X9_wellPulled_4__2, e_X9_wellPulled_4__3, e8, e7, wx_bd, wx_let, wx_st, wx_lit, wx_ga, wx_sa, pk_mul, nI_add, wx_le, wx_lt, wx_eq, wx_en, wx_ne', wx_nn, wx_ltn, wx_len, wx_nlt, wx_nle, wx_bz0, wx_bz1, if_pos, if_neg, wx_ite, Nat.reduceEqDiff, eq_self, if_true, if_false, not_true_eq_false, not_false_eq_true]
      exact r1
    · simp -implicitDefEqProofs (disch := omega) only [e_X12_game_21, e_X12_game_21__1, e_X12_game_21__2, e_X12_game_21__3, n4, wx_bd, wx_let, wx_st, wx_lit, wx_ga, wx_sa, pk_mul, nI_add, wx_le, wx_lt, wx_eq, wx_en, wx_ne', wx_nn, wx_ltn, wx_len, wx_nlt, wx_nle, wx_bz0, wx_bz1, if_pos, if_neg, wx_ite, Nat.reduceEqDiff, eq_self, if_true, if_false, not_true_eq_false, not_false_eq_true]
      exact r2
end FO
set_option maxHeartbeats 1000000 in
theorem ws_forum : wp_forum wR := by
  intro σ τ a0 a1 h
  have h := wR_told (nI 0) h
  simp only [e_X12_forum, wx_st, wx_lit]
  simp -implicitDefEqProofs only [e_X12_forum__1, wx_lit]
  generalize wg_u τ 0 0 (nI 0) = τ at h ⊢
  obtain ⟨nw, nj, nc, ⟨h1, h2, h3, h4, h5⟩, hP, hI, hD, hF⟩ := id h
  obtain ⟨n1, n2, n3, n4, n5, n6⟩ := id h1
  rcases wk_tri (wb_nc h2) n6 n3 a0 with ⟨c1, c2⟩ | ⟨c, hc, rfl, c1, c2⟩
  · exact ⟨-nI 1, σ, τ, by simp -implicitDefEqProofs (disch := omega) only [e_X11_forum, e_X11_forum__1, e_X11_forum__2, c1, wx_bd, wx_let, wx_st, wx_lit, wx_ga, wx_sa, pk_mul, nI_add, wx_le, wx_lt, wx_eq, wx_en, wx_ne', wx_nn, wx_ltn, wx_len, wx_nlt, wx_nle, wx_bz0, wx_bz1, if_pos, if_neg, wx_ite, Nat.reduceEqDiff, eq_self, if_true, if_false, not_true_eq_false, not_false_eq_true], by simp -implicitDefEqProofs (disch := omega) only [e_X12_forum, e_X12_forum__1, e_X12_forum__2, e_X12_forum__3, c2, wx_bd, wx_let, wx_st, wx_lit, wx_ga, wx_sa, pk_mul, nI_add, wx_le, wx_lt, wx_eq, wx_en, wx_ne', wx_nn, wx_ltn, wx_len, wx_nlt, wx_nle, wx_bz0, wx_bz1, if_pos, if_neg, wx_ite, Nat.reduceEqDiff, eq_self, if_true, if_false, not_true_eq_false, not_false_eq_true], h⟩
  · rcases wk_in a1 0 1 (by omega) (by omega) with ⟨i1, i2⟩ | ⟨q, q1, q2, rfl, i3, i4⟩
    · exact ⟨-nI 1, σ, τ, by simp -implicitDefEqProofs (disch := omega) only [e_X11_forum, e_X11_forum__1, e_X11_forum__2, c1, i1, wx_bd, wx_let, wx_st, wx_lit, wx_ga, wx_sa, pk_mul, nI_add, wx_le, wx_lt, wx_eq, wx_en, wx_ne', wx_nn, wx_ltn, wx_len, wx_nlt, wx_nle, wx_bz0, wx_bz1, if_pos, if_neg, wx_ite, Nat.reduceEqDiff, eq_self, if_true, if_false, not_true_eq_false, not_false_eq_true], by simp -implicitDefEqProofs (disch := omega) only [e_X12_forum, e_X12_forum__1, e_X12_forum__2, e_X12_forum__3, c2, i2, wx_bd, wx_let, wx_st, wx_lit, wx_ga, wx_sa, pk_mul, nI_add, wx_le, wx_lt, wx_eq, wx_en, wx_ne', wx_nn, wx_ltn, wx_len, wx_nlt, wx_nle, wx_bz0, wx_bz1, if_pos, if_neg, wx_ite, Nat.reduceEqDiff, eq_self, if_true, if_false, not_true_eq_false, not_false_eq_true], h⟩
    · obtain ⟨V, hV⟩ := wl_vd h2 h1 h5.1
      obtain ⟨r, σ', τ', r1, r2, r3, r4⟩ := wl_forum_l h2 h1 hV hc q2 nj 0 wg_N wg_N σ τ (-nI 1) (nI 0) (by omega) (by rw [wx_N]; omega) (by rw [wx_N]; omega) (wSc_rfl _) (wSm_rfl _) (Or.inl rfl)
      refine ⟨r, σ', τ', ?_, ?_, wR_s h r3 r4⟩
      · rcases (show q = 0 ∨ q = 1 by omega) with rfl | rfl
        · simp -implicitDefEqProofs (disch := omega) only [e_X11_forum, e_X11_forum__1, e_X11_forum__2, e_X11_forum_39, e_X11_forum_39__1, e_X7_forumOf, c1, i3, wx_bd, wx_let, wx_st, wx_lit, wx_ga, wx_sa, pk_mul, nI_add, wx_le, wx_lt, wx_eq, wx_en, wx_ne', wx_nn, wx_ltn, wx_len, wx_nlt, wx_nle, wx_bz0, wx_bz1, if_pos, if_neg, wx_ite, Nat.reduceEqDiff, eq_self, if_true, if_false, not_true_eq_false, not_false_eq_true]
          rw [show f_X7_forumOf_8 wg_N 280 (nI c) (nI 1) (-nI 1) (nI 0) (nI 0) σ = some (r, σ') from r1]
          simp -implicitDefEqProofs (disch := omega) only [e_X11_forum, e_X11_forum__1, e_X11_forum__2, e_X11_forum_39, e_X11_forum_39__1, wx_bd, wx_let, wx_st, wx_lit, wx_ga, wx_sa, pk_mul, nI_add, wx_le, wx_lt, wx_eq, wx_en, wx_ne', wx_nn, wx_ltn, wx_len, wx_nlt, wx_nle, wx_bz0, wx_bz1, if_pos, if_neg, wx_ite, Nat.reduceEqDiff, eq_self, if_true, if_false, not_true_eq_false, not_false_eq_true]
        · simp -implicitDefEqProofs (disch := omega) only [e_X11_forum, e_X11_forum__1, e_X11_forum__2, e_X11_forum_39, e_X11_forum_39__1, e_X7_forumOf, c1, i3, wx_bd, wx_let, wx_st, wx_lit, wx_ga, wx_sa, pk_mul, nI_add, wx_le, wx_lt, wx_eq, wx_en, wx_ne', wx_nn, wx_ltn, wx_len, wx_nlt, wx_nle, wx_bz0, wx_bz1, if_pos, if_neg, wx_ite, Nat.reduceEqDiff, eq_self, if_true, if_false, not_true_eq_false, not_false_eq_true]
          rw [show f_X7_forumOf_8 wg_N 280 (nI c) (nI 0) (-nI 1) (nI 0) (nI 0) σ = some (r, σ') from r1]
          simp -implicitDefEqProofs (disch := omega) only [e_X11_forum, e_X11_forum__1, e_X11_forum__2, e_X11_forum_39, e_X11_forum_39__1, wx_bd, wx_let, wx_st, wx_lit, wx_ga, wx_sa, pk_mul, nI_add, wx_le, wx_lt, wx_eq, wx_en, wx_ne', wx_nn, wx_ltn, wx_len, wx_nlt, wx_nle, wx_bz0, wx_bz1, if_pos, if_neg, wx_ite, Nat.reduceEqDiff, eq_self, if_true, if_false, not_true_eq_false, not_false_eq_true]
      · simp -implicitDefEqProofs (disch := omega) only [e_X12_forum, e_X12_forum__1, e_X12_forum__2, e_X12_forum__3, c2, i4, wx_bd, wx_let, wx_st, wx_lit, wx_ga, wx_sa, pk_mul, nI_add, wx_le, wx_lt, wx_eq, wx_en, wx_ne', wx_nn, wx_ltn, wx_len, wx_nlt, wx_nle, wx_bz0, wx_bz1, if_pos, if_neg, wx_ite, Nat.reduceEqDiff, eq_self, if_true, if_false, not_true_eq_false, not_false_eq_true]
        exact r2
set_option maxHeartbeats 1000000 in
theorem ws_alike : wp_alike wR := by
  intro σ τ a0 a1 h
  have h := wR_told (nI 0) h
  simp only [e_X12_alike, wx_st, wx_lit]
  simp -implicitDefEqProofs only [e_X12_alike__1, wx_lit]
  generalize wg_u τ 0 0 (nI 0) = τ at h ⊢
  obtain ⟨nw, nj, nc, ⟨h1, h2, h3, h4, h5⟩, hP, hI, hD, hF⟩ := id h
  obtain ⟨n1, n2, n3, n4, n5, n6⟩ := id h1
  rcases wk_wig (wb_nw h2) n4 n1 a0 with ⟨c1, c2⟩ | ⟨a, ha, rfl, c1, c2⟩
  · exact ⟨-nI 1, σ, τ, by simp -implicitDefEqProofs (disch := omega) only [e_X11_alike, e_X11_alike__1, e_X11_alike__2, e_X11_alike__3, e_X11_alike__4, c1, wx_bd, wx_let, wx_st, wx_lit, wx_ga, wx_sa, pk_mul, nI_add, wx_le, wx_lt, wx_eq, wx_en, wx_ne', wx_nn, wx_ltn, wx_len, wx_nlt, wx_nle, wx_bz0, wx_bz1, if_pos, if_neg, wx_ite, Nat.reduceEqDiff, eq_self, if_true, if_false, not_true_eq_false, not_false_eq_true], by simp -implicitDefEqProofs (disch := omega) only [e_X12_alike, e_X12_alike__1, e_X12_alike__2, e_X12_alike__3, c2, wx_bd, wx_let, wx_st, wx_lit, wx_ga, wx_sa, pk_mul, nI_add, wx_le, wx_lt, wx_eq, wx_en, wx_ne', wx_nn, wx_ltn, wx_len, wx_nlt, wx_nle, wx_bz0, wx_bz1, if_pos, if_neg, wx_ite, Nat.reduceEqDiff, eq_self, if_true, if_false, not_true_eq_false, not_false_eq_true], h⟩
  · by_cases cb : a1 = -nI 1
    · subst cb
      obtain ⟨r, r1, r2⟩ := wl_nearest_l h2 h1 ha nw 0 wg_N wg_N (-nI 1) (nI 0) (by omega) (by rw [wx_N]; omega) (by rw [wx_N]; omega) (Or.inl rfl)
      refine ⟨r, σ, τ, ?_, ?_, h⟩
      · simp -implicitDefEqProofs (disch := omega) only [e_X11_alike, e_X11_alike__1, e_X11_alike__2, e_X11_alike__3, e_X11_alike__4, e_X9_nearest, c1, r1, wx_bd, wx_let, wx_st, wx_lit, wx_ga, wx_sa, pk_mul, nI_add, wx_le, wx_lt, wx_eq, wx_en, wx_ne', wx_nn, wx_ltn, wx_len, wx_nlt, wx_nle, wx_bz0, wx_bz1, if_pos, if_neg, wx_ite, Nat.reduceEqDiff, eq_self, if_true, if_false, not_true_eq_false, not_false_eq_true]
      · simp -implicitDefEqProofs (disch := omega) only [e_X12_alike, e_X12_alike__1, e_X12_alike__2, e_X12_alike__3, e_X12_alike_28, e_X12_alike_28__1, c2, r2, wx_bd, wx_let, wx_st, wx_lit, wx_ga, wx_sa, pk_mul, nI_add, wx_le, wx_lt, wx_eq, wx_en, wx_ne', wx_nn, wx_ltn, wx_len, wx_nlt, wx_nle, wx_bz0, wx_bz1, if_pos, if_neg, wx_ite, Nat.reduceEqDiff, eq_self, if_true, if_false, not_true_eq_false, not_false_eq_true]
    · rcases wk_wig (wb_nw h2) n4 n1 a1 with ⟨d1, d2⟩ | ⟨b, hb, rfl, d1, d2⟩
      · exact ⟨-nI 1, σ, τ, by simp -implicitDefEqProofs (disch := omega) only [e_X11_alike, e_X11_alike__1, e_X11_alike__2, e_X11_alike__3, e_X11_alike__4, c1, d1, cb, wx_bd, wx_let, wx_st, wx_lit, wx_ga, wx_sa, pk_mul, nI_add, wx_le, wx_lt, wx_eq, wx_en, wx_ne', wx_nn, wx_ltn, wx_len, wx_nlt, wx_nle, wx_bz0, wx_bz1, if_pos, if_neg, wx_ite, Nat.reduceEqDiff, eq_self, if_true, if_false, not_true_eq_false, not_false_eq_true], by simp -implicitDefEqProofs (disch := omega) only [e_X12_alike, e_X12_alike__1, e_X12_alike__2, e_X12_alike__3, c2, d2, cb, wx_bd, wx_let, wx_st, wx_lit, wx_ga, wx_sa, pk_mul, nI_add, wx_le, wx_lt, wx_eq, wx_en, wx_ne', wx_nn, wx_ltn, wx_len, wx_nlt, wx_nle, wx_bz0, wx_bz1, if_pos, if_neg, wx_ite, Nat.reduceEqDiff, eq_self, if_true, if_false, not_true_eq_false, not_false_eq_true], h⟩
      · obtain ⟨r, r1, r2⟩ := wl_apart h2 h1 ha hb
        exact ⟨r, σ, τ, by simp -implicitDefEqProofs (disch := omega) only [e_X11_alike, e_X11_alike__1, e_X11_alike__2, e_X11_alike__3, e_X11_alike__4, c1, d1, r1, wx_bd, wx_let, wx_st, wx_lit, wx_ga, wx_sa, pk_mul, nI_add, wx_le, wx_lt, wx_eq, wx_en, wx_ne', wx_nn, wx_ltn, wx_len, wx_nlt, wx_nle, wx_bz0, wx_bz1, if_pos, if_neg, wx_ite, Nat.reduceEqDiff, eq_self, if_true, if_false, not_true_eq_false, not_false_eq_true], by simp -implicitDefEqProofs (disch := omega) only [e_X12_alike, e_X12_alike__1, e_X12_alike__2, e_X12_alike__3, e_X12_alike_28, e_X12_alike_28__1, c2, d2, r2, wx_bd, wx_let, wx_st, wx_lit, wx_ga, wx_sa, pk_mul, nI_add, wx_le, wx_lt, wx_eq, wx_en, wx_ne', wx_nn, wx_ltn, wx_len, wx_nlt, wx_nle, wx_bz0, wx_bz1, if_pos, if_neg, wx_ite, Nat.reduceEqDiff, eq_self, if_true, if_false, not_true_eq_false, not_false_eq_true], h⟩
set_option maxHeartbeats 1000000 in
theorem wx_shl : ∀ n, n ≤ 10 → nI 1 <<< (nI n &&& nI 31) = nI (2 ^ n) := by decide +kernel
set_option maxHeartbeats 1000000 in
theorem wx_p2 : ∀ n, n ≤ 8 → 2 ^ n ≤ 256 ∧ 1 ≤ 2 ^ n := by decide
set_option maxHeartbeats 1000000 in
theorem ws_saves : wp_saves wR := by
  intro σ τ a0 a1 h
  have h := wR_told (nI 0) h
  simp only [e_X12_saves, wx_st, wx_lit]
  simp -implicitDefEqProofs only [e_X12_saves__1, wx_lit]
  generalize wg_u τ 0 0 (nI 0) = τ at h ⊢
  obtain ⟨nw, nj, nc, ⟨h1, h2, h3, h4, h5⟩, hP, hI, hD, hF⟩ := id h
  obtain ⟨n1, n2, n3, n4, n5, n6⟩ := id h1
  rcases wk_in a0 1 400 (by omega) (by omega) with ⟨i1, i2⟩ | ⟨w, w1, w2, rfl, i3, i4⟩
  · exact ⟨-nI 1, σ, τ, by simp -implicitDefEqProofs (disch := omega) only [e_X11_saves, e_X11_saves__1, e_X11_saves__2, e_X11_saves__3, e_X11_saves__4, i1, wx_bd, wx_let, wx_st, wx_lit, wx_ga, wx_sa, pk_mul, nI_add, wx_le, wx_lt, wx_eq, wx_en, wx_ne', wx_nn, wx_ltn, wx_len, wx_nlt, wx_nle, wx_bz0, wx_bz1, if_pos, if_neg, wx_ite, Nat.reduceEqDiff, eq_self, if_true, if_false, not_true_eq_false, not_false_eq_true], by simp -implicitDefEqProofs (disch := omega) only [e_X12_saves, e_X12_saves__1, e_X12_saves__2, e_X12_saves__3, i2, wx_bd, wx_let, wx_st, wx_lit, wx_ga, wx_sa, pk_mul, nI_add, wx_le, wx_lt, wx_eq, wx_en, wx_ne', wx_nn, wx_ltn, wx_len, wx_nlt, wx_nle, wx_bz0, wx_bz1, if_pos, if_neg, wx_ite, Nat.reduceEqDiff, eq_self, if_true, if_false, not_true_eq_false, not_false_eq_true], h⟩
  · rcases wk_in a1 0 1 (by omega) (by omega) with ⟨j1, j2⟩ | ⟨q, q1, q2, rfl, j3, j4⟩
    · exact ⟨-nI 1, σ, τ, by simp -implicitDefEqProofs (disch := omega) only [e_X11_saves, e_X11_saves__1, e_X11_saves__2, e_X11_saves__3, e_X11_saves__4, i3, j1, wx_bd, wx_let, wx_st, wx_lit, wx_ga, wx_sa, pk_mul, nI_add, wx_le, wx_lt, wx_eq, wx_en, wx_ne', wx_nn, wx_ltn, wx_len, wx_nlt, wx_nle, wx_bz0, wx_bz1, if_pos, if_neg, wx_ite, Nat.reduceEqDiff, eq_self, if_true, if_false, not_true_eq_false, not_false_eq_true], by simp -implicitDefEqProofs (disch := omega) only [e_X12_saves, e_X12_saves__1, e_X12_saves__2, e_X12_saves__3, i4, j2, wx_bd, wx_let, wx_st, wx_lit, wx_ga, wx_sa, pk_mul, nI_add, wx_le, wx_lt, wx_eq, wx_en, wx_ne', wx_nn, wx_ltn, wx_len, wx_nlt, wx_nle, wx_bz0, wx_bz1, if_pos, if_neg, wx_ite, Nat.reduceEqDiff, eq_self, if_true, if_false, not_true_eq_false, not_false_eq_true], h⟩
    · have hp := wx_p2 nw n1
      obtain ⟨f, f1, f2⟩ := wl_worthOf h2 h1 (nI 0)
      have f0 : f = nI 0 := by
        have : ∀ d i n, i + d = nw → d < n → f_X9_worthOf_4 n 2 (nI 0) (nI 0) (nI i) σ = some (nI 0, σ) := by
          intro d
          induction d with
          | zero =>
            intro i n hi hn
            obtain ⟨n, rfl⟩ : ∃ k, n = k + 1 := ⟨n - 1, by omega⟩
            simp -implicitDefEqProofs (disch := omega) only [e_X9_worthOf_4, e_X9_worthOf_4__1, e_X9_worthOf_4__2, wb_nw h2, wx_bd, wx_let, wx_st, wx_lit, wx_ga, wx_sa, pk_mul, nI_add, wx_le, wx_lt, wx_eq, wx_en, wx_ne', wx_nn, wx_ltn, wx_len, wx_nlt, wx_nle, wx_bz0, wx_bz1, if_pos, if_neg, wx_ite, Nat.reduceEqDiff, eq_self, if_true, if_false, not_true_eq_false, not_false_eq_true]
          | succ d ih =>
            intro i n hi hn
            obtain ⟨n, rfl⟩ : ∃ k, n = k + 1 := ⟨n - 1, by omega⟩
            have z : ¬ (nI 0 >>> (nI i &&& nI 31)) &&& nI 1 = nI 1 := by
              rw [show nI 0 >>> (nI i &&& nI 31) = 0 from Int32.zero_shiftRight]
              decide
            simp -implicitDefEqProofs (disch := omega) only [e_X9_worthOf_4, e_X9_worthOf_4__1, e_X9_worthOf_4__2, e_X9_worthOf_46, e_X9_worthOf_46__1, wb_nw h2, z, wx_bd, wx_let, wx_st, wx_lit, wx_ga, wx_sa, pk_mul, nI_add, wx_le, wx_lt, wx_eq, wx_en, wx_ne', wx_nn, wx_ltn, wx_len, wx_nlt, wx_nle, wx_bz0, wx_bz1, if_pos, if_neg, wx_ite, Nat.reduceEqDiff, eq_self, if_true, if_false, not_true_eq_false, not_false_eq_true]
            exact ih (i + 1) n (by omega) (by omega)
        have t := this nw 0 wg_N (by omega) (by rw [wx_N]; omega)
        rw [e_X9_worthOf] at f1
        have f1 : f_X9_worthOf_4 wg_N 2 (nI 0) (nI 0) (nI 0) σ = some (f, σ) := f1
        rw [t] at f1
        simp only [Option.some.injEq, Prod.mk.injEq, and_true] at f1
        exact f1.symm
      subst f0
      obtain ⟨r, f', r1, r2, r3⟩ := wl_saves_l h2 h1 (nI q) hp.1 (wx_shl nw (by omega)) (nI w) (2 ^ nw - 1) 1 wg_N wg_N (nI 0) (nI 0) (by omega) (by rw [wx_N]; omega) (by rw [wx_N]; omega) f1
      refine ⟨if nI q = nI 0 then f' else r, σ, τ, ?_, ?_, h⟩
      · have e : f_X9_toSave 2 (nI w) σ = some (r, σ) := by
          simp -implicitDefEqProofs only [e_X9_toSave, wx_lit]; exact r1
        by_cases cq : nI q = nI 0
        · simp only [cq, if_true] at j3 ⊢
          simp -implicitDefEqProofs (disch := omega) only [e_X11_saves, e_X11_saves__1, e_X11_saves__2, e_X11_saves__3, e_X11_saves__4, i3, j3, e, r2, wx_bd, wx_let, wx_st, wx_lit, wx_ga, wx_sa, pk_mul, nI_add, wx_le, wx_lt, wx_eq, wx_en, wx_ne', wx_nn, wx_ltn, wx_len, wx_nlt, wx_nle, wx_bz0, wx_bz1, if_pos, if_neg, wx_ite, Nat.reduceEqDiff, eq_self, if_true, if_false, not_true_eq_false, not_false_eq_true]
        · simp only [cq, if_false]
          have cq' : ¬ q = 0 := fun e => cq (by rw [e])
          simp -implicitDefEqProofs (disch := omega) only [e_X11_saves, e_X11_saves__1, e_X11_saves__2, e_X11_saves__3, e_X11_saves__4, i3, j3, e, r2, wx_bd, wx_let, wx_st, wx_lit, wx_ga, wx_sa, pk_mul, nI_add, wx_le, wx_lt, wx_eq, wx_en, wx_ne', wx_nn, wx_ltn, wx_len, wx_nlt, wx_nle, wx_bz0, wx_bz1, if_pos, if_neg, wx_ite, Nat.reduceEqDiff, eq_self, if_true, if_false, not_true_eq_false, not_false_eq_true]
      · simp -implicitDefEqProofs (disch := omega) only [e_X12_saves, e_X12_saves__1, e_X12_saves__2, e_X12_saves__3, i4, j4, r3, wx_bd, wx_let, wx_st, wx_lit, wx_ga, wx_sa, pk_mul, nI_add, wx_le, wx_lt, wx_eq, wx_en, wx_ne', wx_nn, wx_ltn, wx_len, wx_nlt, wx_nle, wx_bz0, wx_bz1, if_pos, if_neg, wx_ite, Nat.reduceEqDiff, eq_self, if_true, if_false, not_true_eq_false, not_false_eq_true]
set_option maxHeartbeats 1000000 in
theorem ws_game : wp_game wR := by
  intro σ τ a0 h
  have h := wR_told (nI 0) h
  simp only [e_X12_game, wx_st, wx_lit]
  simp -implicitDefEqProofs only [e_X12_game__1, wx_lit]
  generalize wg_u τ 0 0 (nI 0) = τ at h ⊢
  obtain ⟨nw, nj, nc, ⟨h1, h2, h3, h4, h5⟩, hP, hI, hD, hF⟩ := id h
  obtain ⟨n1, n2, n3, n4, n5, n6⟩ := id h1
  rcases wk_in a0 0 1 (by omega) (by omega) with ⟨i1, i2⟩ | ⟨q, q1, q2, rfl, i3, i4⟩
  · exact ⟨-nI 1, σ, τ, by simp -implicitDefEqProofs (disch := omega) only [e_X11_game, e_X11_game__1, i1, wx_bd, wx_let, wx_st, wx_lit, wx_ga, wx_sa, pk_mul, nI_add, wx_le, wx_lt, wx_eq, wx_en, wx_ne', wx_nn, wx_ltn, wx_len, wx_nlt, wx_nle, wx_bz0, wx_bz1, if_pos, if_neg, wx_ite, Nat.reduceEqDiff, eq_self, if_true, if_false, not_true_eq_false, not_false_eq_true], by simp -implicitDefEqProofs (disch := omega) only [e_X12_game, e_X12_game__1, e_X12_game__2, i2, wx_bd, wx_let, wx_st, wx_lit, wx_ga, wx_sa, pk_mul, nI_add, wx_le, wx_lt, wx_eq, wx_en, wx_ne', wx_nn, wx_ltn, wx_len, wx_nlt, wx_nle, wx_bz0, wx_bz1, if_pos, if_neg, wx_ite, Nat.reduceEqDiff, eq_self, if_true, if_false, not_true_eq_false, not_false_eq_true], h⟩
  · obtain ⟨r, r1, r2⟩ := wl_game_l h2 h1 q2 nw 0 wg_N wg_N (nI 0) (by omega) (by rw [wx_N]; omega) (by rw [wx_N]; omega)
    refine ⟨r, σ, τ, ?_, ?_, h⟩
    · rcases (show q = 0 ∨ q = 1 by omega) with rfl | rfl
      · simp -implicitDefEqProofs (disch := omega) only [e_X11_game, e_X11_game__1, e_X11_game_30, e_X11_game_30__1, e_X9_wellPulled, i3, wx_bd, wx_let, wx_st, wx_lit, wx_ga, wx_sa, pk_mul, nI_add, wx_le, wx_lt, wx_eq, wx_en, wx_ne', wx_nn, wx_ltn, wx_len, wx_nlt, wx_nle, wx_bz0, wx_bz1, if_pos, if_neg, wx_ite, Nat.reduceEqDiff, eq_self, if_true, if_false, not_true_eq_false, not_false_eq_true]
        rw [show f_X9_wellPulled_4 wg_N 2 (nI 1) (nI 0) (nI 0) σ = some (r, σ) from r1]
        simp -implicitDefEqProofs (disch := omega) only [e_X11_game_30, e_X11_game_30__1, wx_bd, wx_let, wx_st, wx_lit, wx_ga, wx_sa, pk_mul, nI_add, wx_le, wx_lt, wx_eq, wx_en, wx_ne', wx_nn, wx_ltn, wx_len, wx_nlt, wx_nle, wx_bz0, wx_bz1, if_pos, if_neg, wx_ite, Nat.reduceEqDiff, eq_self, if_true, if_false, not_true_eq_false, not_false_eq_true]
      · simp -implicitDefEqProofs (disch := omega) only [e_X11_game, e_X11_game__1, e_X11_game_30, e_X11_game_30__1, e_X9_wellPulled, i3, wx_bd, wx_let, wx_st, wx_lit, wx_ga, wx_sa, pk_mul, nI_add, wx_le, wx_lt, wx_eq, wx_en, wx_ne', wx_nn, wx_ltn, wx_len, wx_nlt, wx_nle, wx_bz0, wx_bz1, if_pos, if_neg, wx_ite, Nat.reduceEqDiff, eq_self, if_true, if_false, not_true_eq_false, not_false_eq_true]
        rw [show f_X9_wellPulled_4 wg_N 2 (nI 0) (nI 0) (nI 0) σ = some (r, σ) from r1]
        simp -implicitDefEqProofs (disch := omega) only [e_X11_game_30, e_X11_game_30__1, wx_bd, wx_let, wx_st, wx_lit, wx_ga, wx_sa, pk_mul, nI_add, wx_le, wx_lt, wx_eq, wx_en, wx_ne', wx_nn, wx_ltn, wx_len, wx_nlt, wx_nle, wx_bz0, wx_bz1, if_pos, if_neg, wx_ite, Nat.reduceEqDiff, eq_self, if_true, if_false, not_true_eq_false, not_false_eq_true]
    · simp -implicitDefEqProofs (disch := omega) only [e_X12_game, e_X12_game__1, e_X12_game__2, i4, wx_bd, wx_let, wx_st, wx_lit, wx_ga, wx_sa, pk_mul, nI_add, wx_le, wx_lt, wx_eq, wx_en, wx_ne', wx_nn, wx_ltn, wx_len, wx_nlt, wx_nle, wx_bz0, wx_bz1, if_pos, if_neg, wx_ite, Nat.reduceEqDiff, eq_self, if_true, if_false, not_true_eq_false, not_false_eq_true]
      exact r2

/-! deeds: the note may come before or behind a change of RULES -/
def wLL (L : wg_M → wg_M) : Prop := (∀ s q, 3 ≤ q → q ≤ 10 → L s q = s q) ∧ ∀ s s', (∀ q, q < 3 ∨ 10 < q → s' q = s q) → ∀ q, q < 3 ∨ 10 < q → L s' q = L s q
set_option maxHeartbeats 1000000 in
theorem wLL_u {L : wg_M → wg_M} (h : wLL L) {s : wg_M} {c i : Nat} {v : Int32} (h1 : 3 ≤ c) (h2 : c ≤ 10) : L (wg_u s c i v) = wg_u (L s) c i v := by
  funext q
  by_cases cq : q = c
  · subst cq
    rw [h.1 _ q h1 h2, wx_uk, wx_uk, h.1 _ q h1 h2]
  · rw [wx_un cq]
    rcases (show (3 ≤ q ∧ q ≤ 10) ∨ (q < 3 ∨ 10 < q) by omega) with g | g
    · rw [h.1 _ q g.1 g.2, wx_un cq, h.1 _ q g.1 g.2]
    · exact h.2 _ _ (fun q' g' => wx_un (by omega)) q g
set_option maxHeartbeats 1000000 in
theorem wLL_n (th : Bool) (l : Nat) (y a b c : Int32) : wLL (wnC th l y a b c) := by
  refine ⟨fun s q h1 h2 => wnC_un (by omega), fun s s' h q hq => ?_⟩
  by_cases cq : q ≠ 1 ∧ (q < 21 ∨ 25 < q)
  · rw [wnC_un cq, wnC_un cq]; exact h q hq
  · have g1 := h 1 (by omega)
    have g2 := h 21 (by omega)
    have g3 := h 22 (by omega)
    have g4 := h 23 (by omega)
    have g5 := h 24 (by omega)
    have g6 := h 25 (by omega)
    unfold wnC
    split
    · exact h q hq
    · rcases (show q = 1 ∨ q = 21 ∨ q = 22 ∨ q = 23 ∨ q = 24 ∨ q = 25 by omega) with rfl | rfl | rfl | rfl | rfl | rfl <;> split <;> simp -implicitDefEqProofs (disch := omega) only [wx_uk, wx_un, pk_us, pk_un, g1, g2, g3, g4, g5, g6]
set_option maxHeartbeats 1000000 in
theorem wl_add_L {L : wg_M → wg_M} (hL : wLL L) {w k c g : Nat} {v : Int32} {σ σ' : wg_M} (hw : w < 8) (hk : σ 7 w = nI k) (hk8 : k < 8) (hc : c < 8) (hcs : ∀ i, i < k → ∃ c, c < 8 ∧ σ 8 (w * 8 + i) = nI c) (h : f_X9_addRule 2 (nI w) (nI c) v (nI g) σ = some (nI 0, σ')) : f_X9_addRule 2 (nI w) (nI c) v (nI g) (L σ) = some (nI 0, L σ') := by
  have key : ∀ s, s 7 w = nI k → (∀ i, i < k → ∃ c, c < 8 ∧ s 8 (w * 8 + i) = nI c) → f_X9_addRule 2 (nI w) (nI c) v (nI g) s = some (nI 0, wg_u (wg_u (wg_u (wg_u (wg_u s 8 (w * 8 + k) (nI c)) 9 (w * 8 + k) v) 10 (w * 8 + k) (nI g)) 7 w (nI (k + 1))) 5 w (wit (fun i => upd (s 8) (w * 8 + k) (nI c) (w * 8 + i)) (fun i => upd (s 9) (w * 8 + k) v (w * 8 + i)) (k + 1))) := by
    intro s s7 s8
    have ic := wl_itchC (σ := wg_u (wg_u (wg_u (wg_u s 8 (w * 8 + k) (nI c)) 9 (w * 8 + k) v) 10 (w * 8 + k) (nI g)) 7 w (nI (k + 1))) (w := w) (k := k + 1) hw (by simp -implicitDefEqProofs (disch := omega) only [wx_uk, wx_un, pk_us, pk_un]) (by omega) (fun i hi => by
      simp -implicitDefEqProofs (disch := omega) only [wx_un, wx_uk]
      by_cases ci : i = k
      · subst ci; exact ⟨c, hc, pk_us⟩
      · rw [pk_un (by omega)]; exact s8 i (by omega))
    have e8 : wg_u (wg_u (wg_u (wg_u s 8 (w * 8 + k) (nI c)) 9 (w * 8 + k) v) 10 (w * 8 + k) (nI g)) 7 w (nI (k + 1)) 8 = upd (s 8) (w * 8 + k) (nI c) := by simp -implicitDefEqProofs (disch := omega) only [wx_un, wx_uk]
    have e9 : wg_u (wg_u (wg_u (wg_u s 8 (w * 8 + k) (nI c)) 9 (w * 8 + k) v) 10 (w * 8 + k) (nI g)) 7 w (nI (k + 1)) 9 = upd (s 9) (w * 8 + k) v := by simp -implicitDefEqProofs (disch := omega) only [wx_un, wx_uk]
    rw [e8, e9] at ic
    generalize wit (fun i => upd (s 8) (w * 8 + k) (nI c) (w * 8 + i)) (fun i => upd (s 9) (w * 8 + k) v (w * 8 + i)) (k + 1) = V at ic ⊢
    simp -implicitDefEqProofs (disch := omega) only [e_X9_addRule, e_X9_addRule__1, e_X9_addRule__2, e_X9_addRule__3, e_X9_addRule__4, e_X9_addRule__5, e_X9_addRule__6, e_X9_addRule__7, e_X9_addRule__8, e_X9_addRule__9, s7, ic, wx_uk, wx_un, pk_us, pk_un, wx_bd, wx_let, wx_st, wx_lit, wx_ga, wx_sa, pk_mul, nI_add, wx_le, wx_lt, wx_eq, wx_en, wx_ne', wx_nn, wx_ltn, wx_len, wx_nlt, wx_nle, wx_bz0, wx_bz1, if_pos, if_neg, wx_ite, Nat.reduceEqDiff, eq_self, if_true, if_false, not_true_eq_false, not_false_eq_true]
  have a := key σ hk hcs
  have b := key (L σ) (by rw [hL.1 _ 7 (by omega) (by omega)]; exact hk) (by rw [hL.1 _ 8 (by omega) (by omega)]; exact hcs)
  rw [h] at a
  simp only [Option.some.injEq, Prod.mk.injEq, true_and] at a
  rw [b, a, hL.1 _ 8 (by omega) (by omega), hL.1 _ 9 (by omega) (by omega), wLL_u hL (by omega) (by omega), wLL_u hL (by omega) (by omega), wLL_u hL (by omega) (by omega), wLL_u hL (by omega) (by omega), wLL_u hL (by omega) (by omega)]
set_option maxHeartbeats 1000000 in
theorem wl_drop_L {L : wg_M → wg_M} (hL : wLL L) {w k i : Nat} {σ σ' : wg_M} (hw : w < 8) (hk : σ 7 w = nI k) (hk8 : k ≤ 8) (hi : i < k) (hcs : ∀ i, i < k → ∃ c, c < 8 ∧ σ 8 (w * 8 + i) = nI c) (h : f_X9_dropRule 2 (nI w) (nI i) σ = some (nI 0, σ')) : f_X9_dropRule 2 (nI w) (nI i) (L σ) = some (nI 0, L σ') := by
  have ex : nI (w * 8 + k) - nI 1 = nI (w * 8 + (k - 1)) := by rw [pk_sub (by omega), show w * 8 + k - 1 = w * 8 + (k - 1) by omega]
  obtain ⟨s1, r1, r2, r3, r4, r5⟩ := wl_drop_l (w := w) (k := k) hw (by omega) hk8 (k - 1 - i) (w * 8 + i) wg_N σ (by omega) (by omega) hk (by rw [wx_N]; omega)
  obtain ⟨s2, q1, q2, q3, q4, q5⟩ := wl_drop_l (w := w) (k := k) hw (by omega) hk8 (k - 1 - i) (w * 8 + i) wg_N (L σ) (by omega) (by omega) (by rw [hL.1 _ 7 (by omega) (by omega)]; exact hk) (by rw [wx_N]; omega)
  have es : s2 = L s1 := by
    funext a
    by_cases c7 : a = 7
    · subst c7
      funext v
      rw [hL.1 _ 7 (by omega) (by omega)]
      by_cases cv : v = w
      · subst cv; rw [q3, r3]
      · rw [q2 v cv, r2 v cv, hL.1 _ 7 (by omega) (by omega)]
    by_cases c8 : a = 8 ∨ a = 9 ∨ a = 10
    · funext y
      rw [hL.1 _ a (by omega) (by omega), q4 a y c8, r4 a y c8, hL.1 _ a (by omega) (by omega)]
    · rw [q1 a c7 (by omega) (by omega) (by omega)]
      rcases (show (3 ≤ a ∧ a ≤ 10) ∨ (a < 3 ∨ 10 < a) by omega) with g | g
      · rw [hL.1 _ a g.1 g.2, hL.1 _ a g.1 g.2, r1 a c7 (by omega) (by omega) (by omega)]
      · exact (hL.2 _ _ (fun q g' => r1 q (by omega) (by omega) (by omega) (by omega)) a g).symm
  have cs1 : ∀ j, j < k - 1 → ∃ c, c < 8 ∧ s1 8 (w * 8 + j) = nI c := fun j hj => by
    rw [r4 8 _ (by omega)]
    split
    · exact hcs (j + 1) (by omega)
    · exact hcs j (by omega)
  have i1 := wl_itchC (σ := s1) (w := w) (k := k - 1) hw r3 (by omega) cs1
  have i2 := wl_itchC (σ := s2) (w := w) (k := k - 1) hw q3 (by omega) (by rw [es, hL.1 _ 8 (by omega) (by omega)]; exact cs1)
  have d1 := r5 _ i1
  have d2 := q5 _ i2
  have f1 : f_X9_dropRule 2 (nI w) (nI i) σ = f_X9_dropRule_22 wg_N 2 (nI w) (nI (w * 8 + (k - 1))) (nI (w * 8 + i)) σ := by
    simp -implicitDefEqProofs (disch := omega) only [e_X9_dropRule, e_X9_dropRule__1, e_X9_dropRule__2, e_X9_dropRule__3, hk, ex, wx_bd, wx_let, wx_st, wx_lit, wx_ga, wx_sa, pk_mul, nI_add, wx_le, wx_lt, wx_eq, wx_en, wx_ne', wx_nn, wx_ltn, wx_len, wx_nlt, wx_nle, wx_bz0, wx_bz1, if_pos, if_neg, wx_ite, Nat.reduceEqDiff, eq_self, if_true, if_false, not_true_eq_false, not_false_eq_true]
  have f2 : f_X9_dropRule 2 (nI w) (nI i) (L σ) = f_X9_dropRule_22 wg_N 2 (nI w) (nI (w * 8 + (k - 1))) (nI (w * 8 + i)) (L σ) := by
    have : L σ 7 w = nI k := by rw [hL.1 _ 7 (by omega) (by omega)]; exact hk
    simp -implicitDefEqProofs (disch := omega) only [e_X9_dropRule, e_X9_dropRule__1, e_X9_dropRule__2, e_X9_dropRule__3, this, ex, wx_bd, wx_let, wx_st, wx_lit, wx_ga, wx_sa, pk_mul, nI_add, wx_le, wx_lt, wx_eq, wx_en, wx_ne', wx_nn, wx_ltn, wx_len, wx_nlt, wx_nle, wx_bz0, wx_bz1, if_pos, if_neg, wx_ite, Nat.reduceEqDiff, eq_self, if_true, if_false, not_true_eq_false, not_false_eq_true]
  rw [f1, d1] at h
  simp only [Option.some.injEq, Prod.mk.injEq, true_and] at h
  rw [f2, d2, ← h, es, hL.1 _ 8 (by omega) (by omega), hL.1 _ 9 (by omega) (by omega), wLL_u hL (by omega) (by omega)]
/-! JUDGES: worn, dead, tried, age -/
def wKc (σ σ' : wg_M) : Prop := ∀ a, a < 12 ∨ 16 < a → σ' a = σ a
def wKm (τ τ' : wg_M) : Prop := (∀ a, a ≠ 1 → τ' a = τ a) ∧ ∀ x, x < 3 ∨ 43 ≤ x → τ' 1 x = τ 1 x
set_option maxHeartbeats 1000000 in
theorem wB_jdg {nw nj nc : Nat} {σ σ' τ τ' : wg_M} (hn : nw ≤ 8 ∧ nj ≤ 10 ∧ nc ≤ 14) (h : wB nw nj nc σ 1 (τ 1) τ) (hc : wKc σ σ') (hm : wKm τ τ') (hJ : ∀ j, j < nj → wJ nw σ' 1 (τ' 1) τ' j) (hI : wI nj (τ' 1)) : wB nw nj nc σ' 1 (τ' 1) τ' := by
  obtain ⟨n1, n2, n3⟩ := hn
  obtain ⟨a1, a2, a3, a4, a5⟩ := h
  have hr' := hm.2
  have e4 : τ' 4 = τ 4 := hm.1 4 (by omega)
  have e6 : τ' 6 = τ 6 := hm.1 6 (by omega)
  have e7 : τ' 7 = τ 7 := hm.1 7 (by omega)
  refine ⟨?_, hJ, fun w hw => ?_, fun c hc2 => ?_, hI⟩
  · have g1 : σ' 1 = σ 1 := hc _ (by omega)
    have g2 : σ' (1 + 1) = σ (1 + 1) := hc _ (by omega)
    have g3 : σ' (1 + 10) = σ (1 + 10) := hc _ (by omega)
    simp -implicitDefEqProofs (disch := omega) only [g1, g2, g3, hr']
    exact a1
  · obtain ⟨c1, c2, c3, c4, c5, k, c6, c7, c8⟩ := a3 w hw
    have hσ : ∀ a, a < 12 → σ' a = σ a := fun a q => hc a (by omega)
    unfold wW
    simp -implicitDefEqProofs (disch := omega) only [hσ, hr', e4]
    refine ⟨c1, c2, c3, c4, c5, k, c6, c7, fun i hi => ?_⟩
    have := c8 i hi
    unfold wU at this ⊢
    simp -implicitDefEqProofs (disch := omega) only [hσ, hr']
    exact this
  · have := a4 c hc2
    unfold wC at this ⊢
    have g1 : σ' (1 + 16) = σ (1 + 16) := hc _ (by omega)
    have g2 : σ' (1 + 17) = σ (1 + 17) := hc _ (by omega)
    have g3 : σ' (1 + 18) = σ (1 + 18) := hc _ (by omega)
    have g4 : σ' (1 + 19) = σ (1 + 19) := hc _ (by omega)
    simp -implicitDefEqProofs (disch := omega) only [g1, g2, g3, g4, hr', e6, e7]
    exact this
set_option maxHeartbeats 1000000 in
theorem wX_k {th : Bool} {nw nj nc : Nat} {σ τ σ' τ' : wg_M} (h : wX th nw nj nc σ τ) (h1 : wKc σ σ') (h2 : wKm τ τ') (hB : wB nw nj nc σ' 1 (τ' 1) τ') : wX th nw nj nc σ' τ' ∧ wFr σ σ' τ τ' := by
  have hf : wFr σ σ' τ τ' := ⟨fun a _ _ _ => h1 a (by omega), fun a q _ _ _ => h2.1 a q, h2.2 0 (by omega)⟩
  exact ⟨wX_mk h (wFr_q hf) hB (wPg_fr (fun a q1 q2 => h1 a (by omega)) (fun i _ => by rw [h2.1 8 (by omega)]) h.2.2.1), hf⟩
section JD
variable {th : Bool} {nw nj nc : Nat} {σ τ : wg_M}
set_option maxHeartbeats 1000000 in
/-- a JUDGE's AGE, DEAD or TRIED -/
theorem wl_setJ (h : wX th nw nj nc σ τ) {j c o : Nat} {v : Int32} (hj : j < nj) (hco : (c = 12 ∧ o = 3) ∨ (c = 15 ∧ o = 23 ∧ v = nI 1) ∨ (c = 16 ∧ o = 33)) : wX th nw nj nc (wg_u σ c j v) (wg_u τ 1 (o + j) v) ∧ wFr σ (wg_u σ c j v) τ (wg_u τ 1 (o + j) v) := by
  have hN := h.1
  have h2 := h.2.1
  have n2 := hN.2.1
  have kc : wKc σ (wg_u σ c j v) := fun a ha => wx_un (by omega)
  have km : wKm τ (wg_u τ 1 (o + j) v) := ⟨fun a ha => wx_un ha, fun x hx => by simp -implicitDefEqProofs (disch := omega) only [wx_uk, wx_un, pk_us, pk_un]⟩
  refine wX_k h kc km (wB_jdg ⟨hN.1, hN.2.1, hN.2.2.1⟩ h2 kc km (fun i hi => ?_) (fun i k hi hk => ?_))
  · have u := h2.2.1 i hi
    unfold wJ at u ⊢
    rcases hco with ⟨rfl, rfl⟩ | ⟨rfl, rfl, rfl⟩ | ⟨rfl, rfl⟩
    · by_cases ci : i = j
      · subst ci
        simp -implicitDefEqProofs (disch := omega) only [Nat.reduceAdd, wx_uk, wx_un, pk_us, pk_un, true_and] at u ⊢
        exact u.2
      · simp -implicitDefEqProofs (disch := omega) only [Nat.reduceAdd, wx_uk, wx_un, pk_us, pk_un] at u ⊢
        exact u
    · by_cases ci : i = j
      · subst ci
        simp -implicitDefEqProofs (disch := omega) only [Nat.reduceAdd, wx_uk, wx_un, pk_us, pk_un] at u ⊢
        exact ⟨u.1, u.2.1, u.2.2.1, u.2.2.2.1, trivial, Or.inr trivial, u.2.2.2.2.2.2⟩
      · simp -implicitDefEqProofs (disch := omega) only [Nat.reduceAdd, wx_uk, wx_un, pk_us, pk_un] at u ⊢
        exact u
    · by_cases ci : i = j
      · subst ci
        simp -implicitDefEqProofs (disch := omega) only [Nat.reduceAdd, wx_uk, wx_un, pk_us, pk_un] at u ⊢
        exact ⟨u.1, u.2.1, u.2.2.1, u.2.2.2.1, u.2.2.2.2.1, u.2.2.2.2.2.1, trivial⟩
      · simp -implicitDefEqProofs (disch := omega) only [Nat.reduceAdd, wx_uk, wx_un, pk_us, pk_un] at u ⊢
        exact u
  · have := h2.2.2.2.2 i k hi hk
    rcases hco with ⟨rfl, rfl⟩ | ⟨rfl, rfl, rfl⟩ | ⟨rfl, rfl⟩ <;> simp -implicitDefEqProofs (disch := omega) only [wx_uk, wx_un, pk_us, pk_un] <;> exact this
set_option maxHeartbeats 1000000 in
/-- a WIG comes off -/
theorem wl_setOff (h : wX th nw nj nc σ τ) {j : Nat} (hj : j < nj) : wX th nw nj nc (wg_u σ 14 j (-nI 1)) (wg_u τ 1 (13 + j) (nI 0)) ∧ wFr σ (wg_u σ 14 j (-nI 1)) τ (wg_u τ 1 (13 + j) (nI 0)) := by
  have hN := h.1
  have h2 := h.2.1
  have n2 := hN.2.1
  have kc : wKc σ (wg_u σ 14 j (-nI 1)) := fun a ha => wx_un (by omega)
  have km : wKm τ (wg_u τ 1 (13 + j) (nI 0)) := ⟨fun a ha => wx_un ha, fun x hx => by simp -implicitDefEqProofs (disch := omega) only [wx_uk, wx_un, pk_us, pk_un]⟩
  refine wX_k h kc km (wB_jdg ⟨hN.1, hN.2.1, hN.2.2.1⟩ h2 kc km (fun i hi => ?_) (fun i k hi hk => ?_))
  · have u := h2.2.1 i hi
    unfold wJ at u ⊢
    by_cases ci : i = j
    · subst ci
      simp -implicitDefEqProofs (disch := omega) only [Nat.reduceAdd, wx_uk, wx_un, pk_us, pk_un, wx_m1] at u ⊢
      exact ⟨u.1, u.2.1, trivial, Or.inl trivial, u.2.2.2.2⟩
    · simp -implicitDefEqProofs (disch := omega) only [Nat.reduceAdd, wx_uk, wx_un, pk_us, pk_un] at u ⊢
      exact u
  · have := h2.2.2.2.2 i k hi hk
    by_cases ci : i = j
    · subst ci
      intro _
      left
      simp -implicitDefEqProofs (disch := omega) only [wx_uk, wx_un, pk_us, pk_un]
    · by_cases ck : k = j
      · subst ck
        simp -implicitDefEqProofs (disch := omega) only [wx_uk, wx_un, pk_us, pk_un]
        intro e; left; exact e
      · simp -implicitDefEqProofs (disch := omega) only [wx_uk, wx_un, pk_us, pk_un]; exact this
set_option maxHeartbeats 1000000 in
/-- a WIG that nobody wears is put on -/
theorem wl_setOn (h : wX th nw nj nc σ τ) {j w : Nat} (hj : j < nj) (hw : w < nw) (hno : ∀ k, k < nj → τ 1 (13 + k) ≠ nI (w + 1)) : wX th nw nj nc (wg_u σ 14 j (nI w)) (wg_u τ 1 (13 + j) (nI (w + 1))) ∧ wFr σ (wg_u σ 14 j (nI w)) τ (wg_u τ 1 (13 + j) (nI (w + 1))) := by
  have hN := h.1
  have h2 := h.2.1
  have n1 := hN.1
  have n2 := hN.2.1
  have kc : wKc σ (wg_u σ 14 j (nI w)) := fun a ha => wx_un (by omega)
  have km : wKm τ (wg_u τ 1 (13 + j) (nI (w + 1))) := ⟨fun a ha => wx_un ha, fun x hx => by simp -implicitDefEqProofs (disch := omega) only [wx_uk, wx_un, pk_us, pk_un]⟩
  refine wX_k h kc km (wB_jdg ⟨hN.1, hN.2.1, hN.2.2.1⟩ h2 kc km (fun i hi => ?_) (fun i k hi hk => ?_))
  · have u := h2.2.1 i hi
    unfold wJ at u ⊢
    by_cases ci : i = j
    · subst ci
      simp -implicitDefEqProofs (disch := omega) only [Nat.reduceAdd, wx_uk, wx_un, pk_us, pk_un, wx_sub1] at u ⊢
      exact ⟨u.1, u.2.1, trivial, Or.inr ⟨w, hw, rfl⟩, u.2.2.2.2⟩
    · simp -implicitDefEqProofs (disch := omega) only [Nat.reduceAdd, wx_uk, wx_un, pk_us, pk_un] at u ⊢
      exact u
  · have := h2.2.2.2.2 i k hi hk
    by_cases ci : i = j
    · subst ci
      by_cases ck : k = i
      · exact fun _ => Or.inr ck.symm
      · simp -implicitDefEqProofs (disch := omega) only [wx_uk, wx_un, pk_us, pk_un]
        intro e
        exact absurd e.symm (hno k hk)
    · by_cases ck : k = j
      · subst ck
        simp -implicitDefEqProofs (disch := omega) only [wx_uk, wx_un, pk_us, pk_un]
        intro e
        exact absurd e (hno i hi)
      · simp -implicitDefEqProofs (disch := omega) only [wx_uk, wx_un, pk_us, pk_un]; exact this
set_option maxHeartbeats 1000000 in
/-- a WIG's HAIR or LENT -/
theorem wl_setW (h : wX th nw nj nc σ τ) {w c o : Nat} {v : Int32} (hw : w < nw) (hco : (c = 4 ∧ o = 43) ∨ (c = 6 ∧ o = 59)) : wX th nw nj nc (wg_u σ c w v) (wg_u τ 1 (o + w) v) ∧ wFr σ (wg_u σ c w v) τ (wg_u τ 1 (o + w) v) := by
  have hN := h.1
  have h2 := h.2.1
  have n1 := hN.1
  have gc : wGc σ (wg_u σ c w v) := fun a ha => wx_un (by omega)
  have gm : wGm τ (wg_u τ 1 (o + w) v) := ⟨fun a ha => wx_un ha, fun x hx => by simp -implicitDefEqProofs (disch := omega) only [wx_uk, wx_un, pk_us, pk_un]⟩
  refine wX_g h gc gm (wB_wig (w := w) ⟨hN.1, hN.2.1, hN.2.2.1⟩ h2 gc gm (fun a x q1 q2 q3 => ?_) (fun a x i q1 q2 q3 q4 => by rw [wx_un (by omega)]) (fun x y q1 q2 q3 => by simp -implicitDefEqProofs (disch := omega) only [wx_uk, wx_un, pk_us, pk_un]) ?_)
  · by_cases ca : a = c
    · subst ca; rw [wx_uk, pk_un q3]
    · rw [wx_un ca]
  · obtain ⟨c1, c2, c3, c4, c5, k, c6, c7, c8⟩ := h2.2.2.1 w hw
    have hU : ∀ i, i < k → wU (wg_u σ c w v) 1 (wg_u τ 1 (o + w) v 1) w i := fun i hi => by
      have := c8 i hi
      unfold wU at this ⊢
      simp -implicitDefEqProofs (disch := omega) only [Nat.reduceAdd, wx_uk, wx_un, pk_us, pk_un] at this ⊢
      exact this
    rcases hco with ⟨rfl, rfl⟩ | ⟨rfl, rfl⟩
    · refine ⟨?_, ?_, ?_, ?_, ?_, k, c6, ?_, hU⟩ <;> simp -implicitDefEqProofs (disch := omega) only [Nat.reduceAdd, wx_uk, wx_un, pk_us, pk_un] <;> assumption
    · refine ⟨?_, ?_, ?_, ?_, ?_, k, c6, ?_, hU⟩ <;> simp -implicitDefEqProofs (disch := omega) only [Nat.reduceAdd, wx_uk, wx_un, pk_us, pk_un] <;> assumption
set_option maxHeartbeats 1000000 in
theorem wl_off (h : wX th nw nj nc σ τ) {w : Nat} (hw : w < nw) : ∃ r σ' τ', f_X1_takeOff 279 (nI w) σ = some (nI 0, σ') ∧ f_X2_wearer 11 (nI w) σ = some (r, σ) ∧ f_X12_wearerOf 0 (nI w) τ = some (r, τ) ∧ ((r = -nI 1 ∧ σ' = σ ∧ τ' = τ) ∨ ∃ j, j < nj ∧ r = nI j ∧ τ 1 (13 + j) = nI (w + 1) ∧ σ' = wg_u σ 14 j (-nI 1) ∧ τ' = wg_u τ 1 (13 + j) (nI 0)) ∧ wX th nw nj nc σ' τ' ∧ wFr σ σ' τ τ' ∧ ∀ k, k < nj → τ' 1 (13 + k) ≠ nI (w + 1) := by
  have hN := h.1
  have h2 := h.2.1
  have n1 := hN.1
  have n2 := hN.2.1
  have sb : ∀ x : Int32, x - nI 1 = nI w → x = nI (w + 1) := fun x e => by
    rw [← Int32.sub_add_cancel (a := x) (b := nI 1), e, nI_add]
  obtain ⟨r, r1, r2, r3⟩ := wl_wearer h2 hN (nI w)
  rcases r3 with ⟨rfl, r4⟩ | ⟨j, hj, rfl, r4⟩
  · refine ⟨-nI 1, σ, τ, ?_, r1, r2, Or.inl ⟨rfl, rfl, rfl⟩, h, wFr_rfl _ _, fun k hk e => ?_⟩
    · simp -implicitDefEqProofs (disch := omega) only [e_X1_takeOff, e_X1_takeOff__1, e_X1_takeOff__2, r1, wx_bd, wx_let, wx_st, wx_lit, wx_ga, wx_sa, pk_mul, nI_add, wx_le, wx_lt, wx_eq, wx_en, wx_ne', wx_nn, wx_ltn, wx_len, wx_nlt, wx_nle, wx_bz0, wx_bz1, if_pos, if_neg, wx_ite, Nat.reduceEqDiff, eq_self, if_true, if_false, not_true_eq_false, not_false_eq_true]
    · exact r4 k hk (by rw [e, wx_sub1])
  · obtain ⟨x1, x2⟩ := wl_setOff h hj
    refine ⟨nI j, _, _, ?_, r1, r2, Or.inr ⟨j, hj, rfl, sb _ r4, rfl, rfl⟩, x1, x2, fun k hk e => ?_⟩
    · simp -implicitDefEqProofs (disch := omega) only [e_X1_takeOff, e_X1_takeOff__1, e_X1_takeOff__2, r1, wx_bd, wx_let, wx_st, wx_lit, wx_ga, wx_sa, pk_mul, nI_add, wx_le, wx_lt, wx_eq, wx_en, wx_ne', wx_nn, wx_ltn, wx_len, wx_nlt, wx_nle, wx_bz0, wx_bz1, if_pos, if_neg, wx_ite, Nat.reduceEqDiff, eq_self, if_true, if_false, not_true_eq_false, not_false_eq_true]
    · by_cases ck : k = j
      · subst ck
        simp -implicitDefEqProofs (disch := omega) only [wx_uk, wx_un, pk_us, pk_un] at e
        rw [wx_eq (by omega) (by omega)] at e
        omega
      · simp -implicitDefEqProofs (disch := omega) only [wx_uk, wx_un, pk_us, pk_un] at e
        have e2 := sb _ r4
        rcases h2.2.2.2.2 k j hk hj (e.trans e2.symm) with q | q
        · rw [e, wx_eq (by omega) (by omega)] at q; omega
        · exact ck q
set_option maxHeartbeats 1000000 in
theorem wl_putOn (h : wX th nw nj nc σ τ) {w j : Nat} (hw : w < nw) (hj : j < nj) : ∃ σ' τ', f_X1_putOn 279 (nI w) (nI j) σ = some (nI 0, σ') ∧ f_X12_isOn 0 (nI w) (nI j) τ = some (nI 0, τ') ∧ wX th nw nj nc σ' τ' ∧ wFr σ σ' τ τ' := by
  have n1 := h.1.1
  have n2 := h.1.2.1
  obtain ⟨r, s1, t1, a1, a2, a3, a4, a5, a6, a7⟩ := wl_off h hw
  obtain ⟨b1, b2⟩ := wl_setOn a5 hj hw a7
  obtain ⟨c1, c2⟩ := wl_setW (c := 6) (o := 59) (v := wg_u t1 1 (13 + j) (nI (w + 1)) 1 (59 + w) + nI 1) b1 hw (Or.inr ⟨rfl, rfl⟩)
  obtain ⟨σ', τ', d1, d2, d3, d4, -⟩ := wl_note c1 (nI 1) (nI w) (nI j)
  have e6 : wg_u s1 14 j (nI w) 6 w = wg_u t1 1 (13 + j) (nI (w + 1)) 1 (59 + w) := wb_lent b1.2.1 hw
  refine ⟨σ', τ', ?_, ?_, d3, wFr_tr a6 (wFr_tr b2 (wFr_tr c2 d4))⟩
  · simp -implicitDefEqProofs (disch := omega) only [e_X1_putOn, e_X1_putOn__1, e_X1_putOn__2, e_X1_putOn__3, e_X1_putOn__4, e_X1_putOn__5, a1, e6, d1, wx_bd, wx_let, wx_st, wx_lit, wx_ga, wx_sa, pk_mul, nI_add, wx_le, wx_lt, wx_eq, wx_en, wx_ne', wx_nn, wx_ltn, wx_len, wx_nlt, wx_nle, wx_bz0, wx_bz1, if_pos, if_neg, wx_ite, Nat.reduceEqDiff, eq_self, if_true, if_false, not_true_eq_false, not_false_eq_true]
  · rcases a4 with ⟨rfl, rfl, rfl⟩ | ⟨k, hk, rfl, k1, k2, k3⟩
    · simp -implicitDefEqProofs (disch := omega) only [e_X12_isOn, e_X12_isOn__1, e_X12_isOn__2, e_X12_isOn_21, e_X12_isOn_21__1, e_X12_isOn_21__2, e_X12_isOn_21__3, e_X12_isOn_21__4, a3, d2, wx_bd, wx_let, wx_st, wx_lit, wx_ga, wx_sa, pk_mul, nI_add, wx_le, wx_lt, wx_eq, wx_en, wx_ne', wx_nn, wx_ltn, wx_len, wx_nlt, wx_nle, wx_bz0, wx_bz1, if_pos, if_neg, wx_ite, Nat.reduceEqDiff, eq_self, if_true, if_false, not_true_eq_false, not_false_eq_true]
    · rw [k3] at d2
      simp -implicitDefEqProofs (disch := omega) only [e_X12_isOn, e_X12_isOn__1, e_X12_isOn__2, e_X12_isOn_21, e_X12_isOn_21__1, e_X12_isOn_21__2, e_X12_isOn_21__3, e_X12_isOn_21__4, a3, d2, wx_bd, wx_let, wx_st, wx_lit, wx_ga, wx_sa, pk_mul, nI_add, wx_le, wx_lt, wx_eq, wx_en, wx_ne', wx_nn, wx_ltn, wx_len, wx_nlt, wx_nle, wx_bz0, wx_bz1, if_pos, if_neg, wx_ite, Nat.reduceEqDiff, eq_self, if_true, if_false, not_true_eq_false, not_false_eq_true]
end JD

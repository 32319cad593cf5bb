def pC (a i : Nat) : Bool := pS a i || (a == 260 && (i == 13 || i == 14 || i == 15)) || a == 265
def qC (a i : Nat) : Bool := qS a i || (a == 0 && (i == 30 || i == 32)) || a == 18
set_option maxHeartbeats 1000000 in
theorem pSC (a i : Nat) (h : pS a i = true) : pC a i = true := by simp [pC, h]
set_option maxHeartbeats 1000000 in
theorem qSC (a i : Nat) (h : qS a i = true) : qC a i = true := by simp [qC, h]
def wWc (W : List Nat) (σ : wg_M) : Prop := σ 260 13 = nI W.length ∧ σ 260 14 = nI (wop W) ∧ σ 260 15 = nI (wbr W) ∧ wStk (σ 265) wcd W
def wWm (W : List Nat) (τ : wg_M) : Prop := τ 0 32 = nI W.length ∧ τ 0 30 = nI (wop W) ∧ wStk (τ 18) id W
section ST
variable {M : Nat} {TS TV TF : Nat → Nat} {RM : Nat → wg_M → Prop} {W : List Nat} {σ τ σ' τ' : wg_M} {C : List (Nat × Int32)}
set_option maxHeartbeats 1000000 in
theorem wWc_fr (h : wWc W σ) (h1 : ∀ i, i = 13 ∨ i = 14 ∨ i = 15 → σ' 260 i = σ 260 i) (h2 : ∀ i, σ' 265 i = σ 265 i) : wWc W σ' :=
  ⟨by rw [h1 13 (by omega)]; exact h.1, by rw [h1 14 (by omega)]; exact h.2.1, by rw [h1 15 (by omega)]; exact h.2.2.1, wStk_fr (fun i _ => h2 i) h.2.2.2⟩
set_option maxHeartbeats 1000000 in
theorem wWm_fr (h : wWm W τ) (h1 : ∀ i, i = 30 ∨ i = 32 → τ' 0 i = τ 0 i) (h2 : ∀ i, τ' 18 i = τ 18 i) : wWm W τ' :=
  ⟨by rw [h1 32 (by omega)]; exact h.1, by rw [h1 30 (by omega)]; exact h.2.1, wStk_fr (fun i _ => h2 i) h.2.2⟩
set_option maxHeartbeats 1000000 in
theorem wWc_S (h : wWc W σ) (g : wFx pS σ σ') : wWc W σ' :=
  wWc_fr h (fun i q => g 260 i (by rcases q with rfl | rfl | rfl <;> rfl)) (fun i => g 265 i rfl)
set_option maxHeartbeats 1000000 in
theorem wWm_S (h : wWm W τ) (g : wFx qS τ τ') : wWm W τ' :=
  wWm_fr h (fun i q => g 0 i (by rcases q with rfl | rfl <;> rfl)) (fun i => g 18 i (by simp [qS]))
set_option maxHeartbeats 1000000 in
/-- one more waits -/
theorem wl_aw (h : wWc W σ) (hl : W.length < 32) (x : Nat) (hx : x = 9 ∨ x = 10 ∨ x = 11 ∨ x = 12) : f_X6_await 260 (nI (wcd x)) σ = some (nI 0, wg_u (wg_u σ 265 W.length (nI (wcd x))) 260 13 (nI (W.length + 1))) := by
  obtain ⟨h1, -⟩ := h
  have e32 : Int32.ofNat 32 = nI 32 := rfl
  simp -implicitDefEqProofs (disch := omega) only [e_X6_await, e_X6_await__1, e_X6_await__2, e32, h1, wx_uk, wx_un, pk_us, pk_un, wx_bd, wx_let, wx_st, wx_lit, wx_ga, wx_sa, pk_mul, nI_add, wx_le, wx_lt, wx_eq, wx_en, wx_ne', wx_nn, wx_ltn, wx_len, wx_nlt, wx_nle, wx_bz0, wx_bz1, if_pos, if_neg, wx_ite, Nat.reduceEqDiff, eq_self, if_true, if_false, not_true_eq_false, not_false_eq_true]
set_option maxHeartbeats 1000000 in
theorem wl_wt (h : wWm W τ) (hl : W.length < 40) (x : Int32) : f_X12_waits 0 x τ = some (nI 0, wg_u (wg_u τ 18 W.length x) 0 32 (nI (W.length + 1))) := by
  obtain ⟨h1, -⟩ := h
  simp -implicitDefEqProofs (disch := omega) only [e_X12_waits, e_X12_waits__1, e_X12_waits__2, h1, wx_uk, wx_un, pk_us, pk_un, wx_bd, wx_let, wx_st, wx_lit, wx_ga, wx_sa, pk_mul, nI_add, wx_le, wx_lt, wx_eq, wx_en, wx_ne', wx_nn, wx_ltn, wx_len, wx_nlt, wx_nle, wx_bz0, wx_bz1, if_pos, if_neg, wx_ite, Nat.reduceEqDiff, eq_self, if_true, if_false, not_true_eq_false, not_false_eq_true]
set_option maxHeartbeats 1000000 in
theorem wWc_c0 (h : wStk (σ 265) wcd W) (x : Nat) (v : Int32) : wStk (wg_u (wg_u σ 265 W.length (nI (wcd x))) 260 13 v 265) wcd (x :: W) := by
  refine ⟨?_, wStk_fr (fun i hi => ?_) h⟩
  · rw [wx_un (by omega), wx_uk, pk_us]
  · rw [wx_un (by omega), wx_uk, pk_un (by omega)]
set_option maxHeartbeats 1000000 in
theorem wWm_c0 (h : wStk (τ 18) id W) (x : Nat) (v : Int32) : wStk (wg_u (wg_u τ 18 W.length (nI x)) 0 32 v 18) id (x :: W) := by
  refine ⟨?_, wStk_fr (fun i hi => ?_) h⟩
  · rw [wx_un (by omega), wx_uk, pk_us]; rfl
  · rw [wx_un (by omega), wx_uk, pk_un (by omega)]
set_option maxHeartbeats 1000000 in
/-- each not that waits is put: the class -/
theorem wl_nC : ∀ (W : List Nat) (C : List (Nat × Int32)) (σ : wg_M) (f : Nat), W.length < f → W.length ≤ 32 → wWc W σ → wCc C σ → wo_l C + W.length ≤ 400 → ∃ σ', f_X6_settle_0 f 260 σ = f_X6_settle_58 260 σ' ∧ wWc (wnW W) σ' ∧ wCc (C ++ wnD W) σ' ∧ ∀ a i, ¬ (a = 260 ∧ (i = 13 ∨ i = 14)) → ¬ (a = 266 ∧ i = 2) → a ≠ 267 → a ≠ 268 → σ' a i = σ a i
  | [], C, σ, f, h1, h2, hk, cc, hl => by
    obtain ⟨f, rfl⟩ : ∃ k, f = k + 1 := ⟨f - 1, by have : ([] : List Nat).length < f := h1; omega⟩
    have e : σ 260 13 = nI 0 := hk.1
    exact ⟨σ, by simp -implicitDefEqProofs (disch := omega) only [e_X6_settle_0, e_X6_settle_0__1, e_X6_settle_0__2, e_X6_settle_0__3, e_X6_settle_0__4, e, wx_bd, wx_let, wx_st, wx_lit, wx_ga, wx_sa, pk_mul, nI_add, wx_le, wx_lt, wx_eq, wx_en, wx_ne', wx_nn, wx_ltn, wx_len, wx_nlt, wx_nle, wx_bz0, wx_bz1, if_pos, if_neg, wx_ite, Nat.reduceEqDiff, eq_self, if_true, if_false, not_true_eq_false, not_false_eq_true], hk, by simpa [wnD] using cc, fun _ _ _ _ _ _ => rfl⟩
  | x :: R, C, σ, f, h1, h2, hk, cc, hl => by
    simp only [List.length_cons] at h1 h2 hl
    obtain ⟨f, rfl⟩ : ∃ k, f = k + 1 := ⟨f - 1, by omega⟩
    obtain ⟨e1', e2, e3, e4, e5⟩ := id hk
    have e1 : σ 260 13 = nI (R.length + 1) := e1'
    clear e1'
    have sb : nI (R.length + 1) - nI 1 = nI R.length := wx_sub1 _
    by_cases c : x = 9
    · subst c
      have lc := wo_len C
      obtain ⟨σ1, p1, p2, p3⟩ := wl_put cc (by omega) 9 (nI 0)
      have p1 : f_X3_put 266 (nI 272) (nI 0) σ = some (nI 0, σ1) := p1
      have w1 : σ1 260 13 = nI (R.length + 1) := by rw [p3 260 13 (by omega) (by omega) (by omega)]; exact e1
      have w2 : σ1 260 14 = nI (wop R + 1) := by rw [p3 260 14 (by omega) (by omega) (by omega), e2]; rfl
      have sb2 : nI (wop R + 1) - nI 1 = nI (wop R) := wx_sub1 _
      have e4 : σ 265 R.length = nI 272 := e4
      have ol := wop_le R
      obtain ⟨σ', g1, g2, g3, g4⟩ := wl_nC R (C ++ [(9, nI 0)]) (wg_u (wg_u σ1 260 13 (nI R.length)) 260 14 (nI (wop R))) f (by omega) (by omega) ⟨by simp -implicitDefEqProofs (disch := omega) only [wx_uk, wx_un, pk_us, pk_un], by simp -implicitDefEqProofs (disch := omega) only [wx_uk, wx_un, pk_us, pk_un], by
        simp -implicitDefEqProofs (disch := omega) only [wx_uk, wx_un, pk_us, pk_un]
        rw [p3 260 15 (by omega) (by omega) (by omega), e3]
        rfl, wStk_fr (fun i _ => by rw [wx_un (by omega), wx_un (by omega), p3 265 i (by omega) (by omega) (by omega)]) e5⟩ (wCc_at (wCc_at p2)) (by rw [wo_l_app]; show wo_l C + 1 + R.length ≤ 400; omega)
      refine ⟨σ', ?_, g2, ?_, fun a i q1 q2 q3 q4 => ?_⟩
      · simp -implicitDefEqProofs (disch := omega) only [e_X6_settle_0, e_X6_settle_0__1, e_X6_settle_0__2, e_X6_settle_0__3, e_X6_settle_0__4, e1, sb, e4, p1, w1, w2, sb2, wx_uk, wx_un, pk_us, pk_un, wx_bd, wx_let, wx_st, wx_lit, wx_ga, wx_sa, pk_mul, nI_add, wx_le, wx_lt, wx_eq, wx_en, wx_ne', wx_nn, wx_ltn, wx_len, wx_nlt, wx_nle, wx_bz0, wx_bz1, if_pos, if_neg, wx_ite, Nat.reduceEqDiff, eq_self, if_true, if_false, not_true_eq_false, not_false_eq_true]
        exact g1
      · rw [List.append_assoc] at g3; exact g3
      · rw [g4 a i q1 q2 q3 q4, wx_ur, if_neg (by omega), wx_ur, if_neg (by omega)]
        exact p3 a i q2 q3 q4
    · have ew : wnW (x :: R) = x :: R := if_neg c
      have ed : wnD (x :: R) = [] := if_neg c
      have e4 : σ 265 R.length = nI (wcd x) := e4
      have cx : wcd x ≠ 272 ∧ wcd x < 300 := by unfold wcd; rw [if_neg c]; split <;> (try split) <;> omega
      rw [ew, ed]
      exact ⟨σ, by simp -implicitDefEqProofs (disch := omega) only [e_X6_settle_0, e_X6_settle_0__1, e_X6_settle_0__2, e_X6_settle_0__3, e_X6_settle_0__4, e1, sb, e4, wx_bd, wx_let, wx_st, wx_lit, wx_ga, wx_sa, pk_mul, nI_add, wx_le, wx_lt, wx_eq, wx_en, wx_ne', wx_nn, wx_ltn, wx_len, wx_nlt, wx_nle, wx_bz0, wx_bz1, if_pos, if_neg, wx_ite, Nat.reduceEqDiff, eq_self, if_true, if_false, not_true_eq_false, not_false_eq_true], hk, by simpa using cc, fun _ _ _ _ _ _ => rfl⟩
set_option maxHeartbeats 1000000 in
/-- each not that waits is put: the reference -/
theorem wl_nM : ∀ (W : List Nat) (C : List (Nat × Int32)) (τ : wg_M) (f : Nat), W.length < f → W.length ≤ 40 → (∀ x, x ∈ W → x < 100) → wWm W τ → wCm C τ → wo_l C + W.length ≤ 400 → ∃ τ', f_X12_settles_0 f 0 (nI 9) τ = some (nI 0, τ') ∧ wWm (wnW W) τ' ∧ wCm (C ++ wnD W) τ' ∧ ∀ a i, ¬ (a = 0 ∧ (i = 29 ∨ i = 30 ∨ i = 32)) → ¬ ((a = 16 ∨ a = 17) ∧ 800 ≤ i) → τ' a i = τ a i
  | [], C, τ, f, h1, h2, hx, hk, cc, hl => by
    obtain ⟨f, rfl⟩ : ∃ k, f = k + 1 := ⟨f - 1, by have : ([] : List Nat).length < f := h1; omega⟩
    have e : τ 0 32 = nI 0 := hk.1
    exact ⟨τ, by simp -implicitDefEqProofs (disch := omega) only [e_X12_settles_0, e_X12_settles_0__1, e_X12_settles_0__2, e_X12_settles_0__3, e_X12_settles_0__4, e, wx_bd, wx_let, wx_st, wx_lit, wx_ga, wx_sa, pk_mul, nI_add, wx_le, wx_lt, wx_eq, wx_en, wx_ne', wx_nn, wx_ltn, wx_len, wx_nlt, wx_nle, wx_bz0, wx_bz1, if_pos, if_neg, wx_ite, Nat.reduceEqDiff, eq_self, if_true, if_false, not_true_eq_false, not_false_eq_true], hk, by simpa [wnD] using cc, fun _ _ _ _ => rfl⟩
  | x :: R, C, τ, f, h1, h2, hx, hk, cc, hl => by
    have x100 := hx x (by simp)
    simp only [List.length_cons] at h1 h2 hl
    obtain ⟨f, rfl⟩ : ∃ k, f = k + 1 := ⟨f - 1, by omega⟩
    obtain ⟨e1', e2, e4', e5⟩ := id hk
    have e1 : τ 0 32 = nI (R.length + 1) := e1'
    have e4 : τ 18 R.length = nI x := e4'
    clear e1' e4'
    have sb : nI (R.length + 1) - nI 1 = nI R.length := wx_sub1 _
    by_cases c : x = 9
    · subst c
      have cc1 : wCm C (wg_u τ 0 32 (nI R.length)) := wCm_fr (by rw [wx_uk, pk_un (by omega)]) (fun i => by rw [wx_un (by omega)]) (fun i => by rw [wx_un (by omega)]) cc
      obtain ⟨τ1, p1, p2, p3⟩ := wl_emi cc1 (by omega) 9 (nI 0) (nI 0) (by omega) (by omega) (fun _ => rfl)
      have w2 : τ1 0 30 = nI (wop R + 1) := by rw [p3 0 30 (by omega) (by omega), wx_uk, pk_un (by omega), e2]; rfl
      have w1 : τ1 0 32 = nI R.length := by rw [p3 0 32 (by omega) (by omega), wx_uk, pk_us]
      have sb2 : nI (wop R + 1) - nI 1 = nI (wop R) := wx_sub1 _
      obtain ⟨τ', g1, g2, g3, g4⟩ := wl_nM R (C ++ [(9, nI 0)]) (wg_u τ1 0 30 (nI (wop R))) f (by omega) (by omega) (fun y hy => hx y (by simp [hy])) ⟨by rw [wx_uk, pk_un (by omega)]; exact w1, by rw [wx_uk, pk_us], wStk_fr (fun i _ => by rw [wx_un (by omega), p3 18 i (by omega) (by omega), wx_un (by omega)]) e5⟩ (wCm_fr (by rw [wx_uk, pk_un (by omega)]) (fun i => by rw [wx_un (by omega)]) (fun i => by rw [wx_un (by omega)]) p2) (by rw [wo_l_app]; show wo_l C + 1 + R.length ≤ 400; omega)
      refine ⟨τ', ?_, g2, ?_, fun a i q1 q2 => ?_⟩
      · simp -implicitDefEqProofs (disch := omega) only [e_X12_settles_0, e_X12_settles_0__1, e_X12_settles_0__2, e_X12_settles_0__3, e_X12_settles_0__4, e1, sb, e4, p1, w2, sb2, wx_uk, wx_un, pk_us, pk_un, wx_bd, wx_let, wx_st, wx_lit, wx_ga, wx_sa, pk_mul, nI_add, wx_le, wx_lt, wx_eq, wx_en, wx_ne', wx_nn, wx_ltn, wx_len, wx_nlt, wx_nle, wx_bz0, wx_bz1, if_pos, if_neg, wx_ite, Nat.reduceEqDiff, eq_self, if_true, if_false, not_true_eq_false, not_false_eq_true]
        exact g1
      · rw [List.append_assoc] at g3; exact g3
      · rw [g4 a i q1 q2, wx_ur, if_neg (by omega), p3 a i (by omega) q2, wx_ur, if_neg (by omega)]
    · have ew : wnW (x :: R) = x :: R := if_neg c
      have ed : wnD (x :: R) = [] := if_neg c
      rw [ew, ed]
      exact ⟨τ, by simp -implicitDefEqProofs (disch := omega) only [e_X12_settles_0, e_X12_settles_0__1, e_X12_settles_0__2, e_X12_settles_0__3, e_X12_settles_0__4, e1, sb, e4, wx_bd, wx_let, wx_st, wx_lit, wx_ga, wx_sa, pk_mul, nI_add, wx_le, wx_lt, wx_eq, wx_en, wx_ne', wx_nn, wx_ltn, wx_len, wx_nlt, wx_nle, wx_bz0, wx_bz1, if_pos, if_neg, wx_ite, Nat.reduceEqDiff, eq_self, if_true, if_false, not_true_eq_false, not_false_eq_true], hk, by simpa using cc, fun _ _ _ _ => rfl⟩
set_option maxHeartbeats 1000000 in
/-- an and, or an or, that waits is put: the reference -/
theorem wl_pM {k : Nat} (hk : k = 10 ∨ k = 11) (hW : wWf W) (hl32 : W.length ≤ 40) (hk1 : wWm W τ) (cc : wCm C τ) (hl : wo_l C + W.length ≤ 400) (hd : k = 11 → whd W = 0 ∨ whd W = 11 ∨ whd W = 12) (h9 : whd W ≠ 9) : ∃ τ', f_X12_settles 0 (nI k) τ = some (nI 0, τ') ∧ wWm (wpW k W) τ' ∧ wCm (C ++ wpD k W) τ' ∧ ∀ a i, ¬ (a = 0 ∧ (i = 29 ∨ i = 32)) → ¬ ((a = 16 ∨ a = 17) ∧ 800 ≤ i) → τ' a i = τ a i := by
  rw [e_X12_settles]
  have hN : wg_N = 4998 + 1 + 1 := rfl
  rcases W with _ | ⟨x, R⟩
  · have e : τ 0 32 = nI 0 := hk1.1
    rw [hN]
    exact ⟨τ, by simp -implicitDefEqProofs (disch := omega) only [e_X12_settles_0, e_X12_settles_0__1, e_X12_settles_0__2, e_X12_settles_0__3, e_X12_settles_0__4, e, wx_bd, wx_let, wx_st, wx_lit, wx_ga, wx_sa, pk_mul, nI_add, wx_le, wx_lt, wx_eq, wx_en, wx_ne', wx_nn, wx_ltn, wx_len, wx_nlt, wx_nle, wx_bz0, wx_bz1, if_pos, if_neg, wx_ite, Nat.reduceEqDiff, eq_self, if_true, if_false, not_true_eq_false, not_false_eq_true], hk1, by simpa [wpD] using cc, fun _ _ _ _ => rfl⟩
  · simp only [List.length_cons] at hl32 hl
    obtain ⟨e1, e2, e4, e5⟩ := id hk1
    have e1 : τ 0 32 = nI (R.length + 1) := e1
    have e4 : τ 18 R.length = nI x := e4
    have sb : nI (R.length + 1) - nI 1 = nI R.length := wx_sub1 _
    obtain ⟨wx, wR⟩ := hW
    by_cases c : x = k
    · subst c
      have ew : wpW x (x :: R) = R := if_pos rfl
      have ed : wpD x (x :: R) = [(x, nI 0)] := if_pos rfl
      rw [ew, ed]
      have cc1 : wCm C (wg_u τ 0 32 (nI R.length)) := wCm_fr (by rw [wx_uk, pk_un (by omega)]) (fun i => by rw [wx_un (by omega)]) (fun i => by rw [wx_un (by omega)]) cc
      obtain ⟨τ1, p1, p2, p3⟩ := wl_emi cc1 (by omega) x (nI 0) (nI 0) (by omega) (by omega) (fun _ => rfl)
      have w1 : τ1 0 32 = nI R.length := by rw [p3 0 32 (by omega) (by omega), wx_uk, pk_us]
      refine ⟨τ1, ?_, ⟨w1, ?_, wStk_fr (fun i _ => by rw [p3 18 i (by omega) (by omega), wx_un (by omega)]) e5⟩, p2, fun a i q1 q2 => by rw [p3 a i (by omega) q2, wx_ur, if_neg (by omega)]⟩
      · rw [hN]
        rcases R with _ | ⟨y, R2⟩
        · have w1 : τ1 0 32 = nI 0 := w1
          have e1 : τ 0 32 = nI 1 := e1
          have e4 : τ 18 0 = nI x := e4
          have sb : nI 1 - nI 1 = nI 0 := by decide
          have p1 : f_X12_emits 0 (nI x) (nI 0) (wg_u τ 0 32 (nI 0)) = some (nI 0, τ1) := p1
          simp -implicitDefEqProofs (disch := omega) only [e_X12_settles_0, e_X12_settles_0__1, e_X12_settles_0__2, e_X12_settles_0__3, e_X12_settles_0__4, e1, sb, e4, p1, w1, wx_bd, wx_let, wx_st, wx_lit, wx_ga, wx_sa, pk_mul, nI_add, wx_le, wx_lt, wx_eq, wx_en, wx_ne', wx_nn, wx_ltn, wx_len, wx_nlt, wx_nle, wx_bz0, wx_bz1, if_pos, if_neg, wx_ite, Nat.reduceEqDiff, eq_self, if_true, if_false, not_true_eq_false, not_false_eq_true]
        · have w1 : τ1 0 32 = nI (R2.length + 1) := w1
          have e6 : τ1 18 R2.length = nI y := by rw [p3 18 _ (by omega) (by omega), wx_un (by omega)]; exact e5.1
          have sb2 : nI (R2.length + 1) - nI 1 = nI R2.length := wx_sub1 _
          simp only [List.length_cons] at *
          have yx : y ≠ x ∧ y < 100 := by
            obtain ⟨wy, -⟩ := wR
            have e : whd (y :: R2) = y := rfl
            rw [e] at wx
            omega
          simp -implicitDefEqProofs (disch := omega) only [e_X12_settles_0, e_X12_settles_0__1, e_X12_settles_0__2, e_X12_settles_0__3, e_X12_settles_0__4, e1, sb, e4, p1, w1, sb2, e6, wx_bd, wx_let, wx_st, wx_lit, wx_ga, wx_sa, pk_mul, nI_add, wx_le, wx_lt, wx_eq, wx_en, wx_ne', wx_nn, wx_ltn, wx_len, wx_nlt, wx_nle, wx_bz0, wx_bz1, if_pos, if_neg, wx_ite, Nat.reduceEqDiff, eq_self, if_true, if_false, not_true_eq_false, not_false_eq_true]
      · rw [p3 0 30 (by omega) (by omega), wx_uk, pk_un (by omega), e2]
        rcases hk with rfl | rfl <;> rfl
    · have ew : wpW k (x :: R) = x :: R := if_neg c
      have ed : wpD k (x :: R) = [] := if_neg c
      have x100 : x < 100 := by omega
      rw [ew, ed, hN]
      exact ⟨τ, by simp -implicitDefEqProofs (disch := omega) only [e_X12_settles_0, e_X12_settles_0__1, e_X12_settles_0__2, e_X12_settles_0__3, e_X12_settles_0__4, e1, sb, e4, wx_bd, wx_let, wx_st, wx_lit, wx_ga, wx_sa, pk_mul, nI_add, wx_le, wx_lt, wx_eq, wx_en, wx_ne', wx_nn, wx_ltn, wx_len, wx_nlt, wx_nle, wx_bz0, wx_bz1, if_pos, if_neg, wx_ite, Nat.reduceEqDiff, eq_self, if_true, if_false, not_true_eq_false, not_false_eq_true], hk1, by simpa using cc, fun _ _ _ _ => rfl⟩
set_option maxHeartbeats 1000000 in
/-- the class: an and that waits, and an or if no and comes -/
theorem wl_isA (hW : wWf W) (hl32 : W.length ≤ 32) (hk1 : wWc W σ) {k : Nat} (hk : k = 10 ∨ k = 11) : f_X6_isAwaited 260 (nI (wcd k)) σ = some (if whd W = k then nI 1 else nI 0, σ) := by
  rcases W with _ | ⟨x, R⟩
  · have e : σ 260 13 = nI 0 := hk1.1
    rw [if_neg (by show ¬ 0 = k; omega)]
    simp -implicitDefEqProofs (disch := omega) only [e_X6_isAwaited, e_X6_isAwaited__1, e, wx_bd, wx_let, wx_st, wx_lit, wx_ga, wx_sa, pk_mul, nI_add, wx_le, wx_lt, wx_eq, wx_en, wx_ne', wx_nn, wx_ltn, wx_len, wx_nlt, wx_nle, wx_bz0, wx_bz1, if_pos, if_neg, wx_ite, Nat.reduceEqDiff, eq_self, if_true, if_false, not_true_eq_false, not_false_eq_true]
  · simp only [List.length_cons] at hl32
    obtain ⟨e1, e2, e3, e4, e5⟩ := id hk1
    have e1 : σ 260 13 = nI (R.length + 1) := e1
    have sb : nI (R.length + 1) - nI 1 = nI R.length := wx_sub1 _
    obtain ⟨wx, -⟩ := hW
    show _ = some (if x = k then nI 1 else nI 0, σ)
    by_cases c : x = k
    · subst c
      rw [if_pos rfl]
      have cl : wcd x < 300 := by unfold wcd; split <;> (try split) <;> (try split) <;> omega
      simp -implicitDefEqProofs (disch := omega) only [e_X6_isAwaited, e_X6_isAwaited__1, e1, sb, e4, wx_bd, wx_let, wx_st, wx_lit, wx_ga, wx_sa, pk_mul, nI_add, wx_le, wx_lt, wx_eq, wx_en, wx_ne', wx_nn, wx_ltn, wx_len, wx_nlt, wx_nle, wx_bz0, wx_bz1, if_pos, if_neg, wx_ite, Nat.reduceEqDiff, eq_self, if_true, if_false, not_true_eq_false, not_false_eq_true]
    · rw [if_neg c]
      have cl : wcd x < 300 ∧ wcd k < 300 ∧ wcd x ≠ wcd k := by
        rcases hk with rfl | rfl <;> rcases wx with rfl | rfl | ⟨rfl, -⟩ | ⟨rfl, -⟩ <;> first | (exact absurd rfl c) | decide
      simp -implicitDefEqProofs (disch := omega) only [e_X6_isAwaited, e_X6_isAwaited__1, e1, sb, e4, wx_bd, wx_let, wx_st, wx_lit, wx_ga, wx_sa, pk_mul, nI_add, wx_le, wx_lt, wx_eq, wx_en, wx_ne', wx_nn, wx_ltn, wx_len, wx_nlt, wx_nle, wx_bz0, wx_bz1, if_pos, if_neg, wx_ite, Nat.reduceEqDiff, eq_self, if_true, if_false, not_true_eq_false, not_false_eq_true]
set_option maxHeartbeats 1000000 in
theorem wl_pC {k : Nat} (hk : k = 10 ∨ k = 11) (hW : wWf W) (hl32 : W.length ≤ 32) (hk1 : wWc W σ) (cc : wCc C σ) (hl : wo_l C + W.length ≤ 400) (hd : whd W = k) : ∃ σ1 σ', f_X3_put 266 (nI (wcd k)) (nI 0) σ = some (nI 0, σ1) ∧ σ1 260 13 - nI 1 = nI (W.length - 1) ∧ σ' = wg_u σ1 260 13 (nI (W.length - 1)) ∧ wWc (wpW k W) σ' ∧ wCc (C ++ wpD k W) σ' ∧ ∀ a i, ¬ (a = 260 ∧ i = 13) → ¬ (a = 266 ∧ i = 2) → a ≠ 267 → a ≠ 268 → σ' a i = σ a i := by
  rcases W with _ | ⟨x, R⟩
  · have hd : 0 = k := hd
    omega
  · have hd : x = k := hd
    subst hd
    simp only [List.length_cons] at hl32 hl
    obtain ⟨e1, e2, e3, e4, e5⟩ := id hk1
    have e1 : σ 260 13 = nI (R.length + 1) := e1
    have lc := wo_len C
    have ew : wpW x (x :: R) = R := if_pos rfl
    have ed : wpD x (x :: R) = [(x, nI 0)] := if_pos rfl
    have es : wo_s x = wcd x := by rcases hk with rfl | rfl <;> rfl
    rw [ew, ed]
    obtain ⟨σ1, p1, p2, p3⟩ := wl_put cc (by omega) x (nI 0)
    rw [es] at p1
    have w1 : σ1 260 13 = nI (R.length + 1) := by rw [p3 260 13 (by omega) (by omega) (by omega)]; exact e1
    have sb : nI (R.length + 1) - nI 1 = nI R.length := wx_sub1 _
    refine ⟨σ1, wg_u σ1 260 13 (nI R.length), p1, by rw [w1, sb]; rfl, rfl, ⟨by rw [wx_uk, pk_us], ?_, ?_, wStk_fr (fun i _ => by rw [wx_un (by omega), p3 265 i (by omega) (by omega) (by omega)]) e5⟩, wCc_at p2, fun a i q1 q2 q3 q4 => by rw [wx_ur, if_neg q1]; exact p3 a i q2 q3 q4⟩
    · rw [wx_uk, pk_un (by omega), p3 260 14 (by omega) (by omega) (by omega), e2]
      rcases hk with rfl | rfl <;> rfl
    · rw [wx_uk, pk_un (by omega), p3 260 15 (by omega) (by omega) (by omega), e3]
      rcases hk with rfl | rfl <;> rfl
end ST

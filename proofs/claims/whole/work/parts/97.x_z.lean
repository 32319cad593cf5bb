section BG
variable {t : Nat → Nat} {n : Nat} {σ : wg_M}
set_option maxHeartbeats 1000000 in
theorem wl_cL1 {b : Nat} (hb : b < 256) (h : wiL b = true) : f_X6_isLetter (nI b) σ = some (nI 1, σ) := by
  simp only [wiL, Bool.or_eq_true, Bool.and_eq_true, decide_eq_true_eq] at h
  by_cases c : 97 ≤ b
  · simp -implicitDefEqProofs (disch := omega) only [e_X6_isLetter, e_X6_isLetter__1, e_X6_isLetter__2, e_X6_isLetter_22, e_X11_within, wx_bd, wx_let, wx_st, wx_lit, wx_ga, wx_sa, pk_mul, nI_add, wx_le, wx_lt, wx_eq, wx_en, wx_ne', wx_nn, wx_ltn, wx_len, wx_nlt, wx_nle, wx_bz0, wx_bz1, if_pos, if_neg, wx_ite, Nat.reduceEqDiff, eq_self, if_true, if_false, not_true_eq_false, not_false_eq_true]
  · simp -implicitDefEqProofs (disch := omega) only [e_X6_isLetter, e_X6_isLetter__1, e_X6_isLetter__2, e_X6_isLetter_22, e_X11_within, wx_bd, wx_let, wx_st, wx_lit, wx_ga, wx_sa, pk_mul, nI_add, wx_le, wx_lt, wx_eq, wx_en, wx_ne', wx_nn, wx_ltn, wx_len, wx_nlt, wx_nle, wx_bz0, wx_bz1, if_pos, if_neg, wx_ite, Nat.reduceEqDiff, eq_self, if_true, if_false, not_true_eq_false, not_false_eq_true]
set_option maxHeartbeats 1000000 in
theorem wl_cL0 {b : Nat} (hb : b < 256) (h : ¬ wiL b = true) : f_X6_isLetter (nI b) σ = some (nI 0, σ) := by
  simp only [wiL, Bool.or_eq_true, Bool.and_eq_true, decide_eq_true_eq] at h
  rcases (show b < 65 ∨ (90 < b ∧ b < 97) ∨ 122 < b by omega) with c | c | c
  · simp -implicitDefEqProofs (disch := omega) only [e_X6_isLetter, e_X6_isLetter__1, e_X6_isLetter__2, e_X6_isLetter_22, e_X11_within, wx_bd, wx_let, wx_st, wx_lit, wx_ga, wx_sa, pk_mul, nI_add, wx_le, wx_lt, wx_eq, wx_en, wx_ne', wx_nn, wx_ltn, wx_len, wx_nlt, wx_nle, wx_bz0, wx_bz1, if_pos, if_neg, wx_ite, Nat.reduceEqDiff, eq_self, if_true, if_false, not_true_eq_false, not_false_eq_true]
  · simp -implicitDefEqProofs (disch := omega) only [e_X6_isLetter, e_X6_isLetter__1, e_X6_isLetter__2, e_X6_isLetter_22, e_X11_within, wx_bd, wx_let, wx_st, wx_lit, wx_ga, wx_sa, pk_mul, nI_add, wx_le, wx_lt, wx_eq, wx_en, wx_ne', wx_nn, wx_ltn, wx_len, wx_nlt, wx_nle, wx_bz0, wx_bz1, if_pos, if_neg, wx_ite, Nat.reduceEqDiff, eq_self, if_true, if_false, not_true_eq_false, not_false_eq_true]
  · simp -implicitDefEqProofs (disch := omega) only [e_X6_isLetter, e_X6_isLetter__1, e_X6_isLetter__2, e_X6_isLetter_22, e_X11_within, wx_bd, wx_let, wx_st, wx_lit, wx_ga, wx_sa, pk_mul, nI_add, wx_le, wx_lt, wx_eq, wx_en, wx_ne', wx_nn, wx_ltn, wx_len, wx_nlt, wx_nle, wx_bz0, wx_bz1, if_pos, if_neg, wx_ite, Nat.reduceEqDiff, eq_self, if_true, if_false, not_true_eq_false, not_false_eq_true]
set_option maxHeartbeats 1000000 in
theorem wl_cD1 {b : Nat} (hb : b < 256) (h : wiD b = true) : f_X6_isDigit (nI b) σ = some (nI 1, σ) := by
  simp only [wiD, Bool.and_eq_true, decide_eq_true_eq] at h
  simp -implicitDefEqProofs (disch := omega) only [e_X6_isDigit, e_X6_isDigit__1, e_X11_within, wx_bd, wx_let, wx_st, wx_lit, wx_ga, wx_sa, pk_mul, nI_add, wx_le, wx_lt, wx_eq, wx_en, wx_ne', wx_nn, wx_ltn, wx_len, wx_nlt, wx_nle, wx_bz0, wx_bz1, if_pos, if_neg, wx_ite, Nat.reduceEqDiff, eq_self, if_true, if_false, not_true_eq_false, not_false_eq_true]
set_option maxHeartbeats 1000000 in
theorem wl_cD0 {b : Nat} (hb : b < 256) (h : ¬ wiD b = true) : f_X6_isDigit (nI b) σ = some (nI 0, σ) := by
  simp only [wiD, Bool.and_eq_true, decide_eq_true_eq] at h
  rcases (show b < 48 ∨ 57 < b by omega) with c | c
  · simp -implicitDefEqProofs (disch := omega) only [e_X6_isDigit, e_X6_isDigit__1, e_X11_within, wx_bd, wx_let, wx_st, wx_lit, wx_ga, wx_sa, pk_mul, nI_add, wx_le, wx_lt, wx_eq, wx_en, wx_ne', wx_nn, wx_ltn, wx_len, wx_nlt, wx_nle, wx_bz0, wx_bz1, if_pos, if_neg, wx_ite, Nat.reduceEqDiff, eq_self, if_true, if_false, not_true_eq_false, not_false_eq_true]
  · simp -implicitDefEqProofs (disch := omega) only [e_X6_isDigit, e_X6_isDigit__1, e_X11_within, wx_bd, wx_let, wx_st, wx_lit, wx_ga, wx_sa, pk_mul, nI_add, wx_le, wx_lt, wx_eq, wx_en, wx_ne', wx_nn, wx_ltn, wx_len, wx_nlt, wx_nle, wx_bz0, wx_bz1, if_pos, if_neg, wx_ite, Nat.reduceEqDiff, eq_self, if_true, if_false, not_true_eq_false, not_false_eq_true]
set_option maxHeartbeats 1000000 in
theorem wl_cS {b : Nat} (hb : b < 256) : f_X6_isSign (nI b) σ = some (if wiS b = true then nI 1 else nI 0, σ) := by
  have ti : (nI b).toInt = (b : Int) := nI_toInt (by omega)
  rw [e_X6_isSign]
  unfold wg_sw
  rw [ti]
  by_cases c : b < 40 ∨ 62 < b
  · have e : ¬ wiS b = true := by
      simp only [wiS, Bool.or_eq_true, beq_iff_eq]
      omega
    rw [if_neg e]
    first
      | (rw [if_pos (by simp; omega)]; rfl)
      | (rw [if_neg (by simp; omega)]; rfl)
  · rcases (show b = 40 ∨ b = 41 ∨ b = 42 ∨ b = 43 ∨ b = 44 ∨ b = 45 ∨ b = 46 ∨ b = 47 ∨ b = 48 ∨ b = 49 ∨ b = 50 ∨ b = 51 ∨ b = 52 ∨ b = 53 ∨ b = 54 ∨ b = 55 ∨ b = 56 ∨ b = 57 ∨ b = 58 ∨ b = 59 ∨ b = 60 ∨ b = 61 ∨ b = 62 by omega) with rfl | rfl | rfl | rfl | rfl | rfl | rfl | rfl | rfl | rfl | rfl | rfl | rfl | rfl | rfl | rfl | rfl | rfl | rfl | rfl | rfl | rfl | rfl <;> rfl
set_option maxHeartbeats 1000000 in
/-- a number, the class -/
theorem wl_nuC (hn : n ≤ 400) (ht : ∀ i, i < n → σ 261 i = nI (t i) ∧ t i < 256) {b : Nat} (hb : b ≤ n) : ∀ d i f acc, i + d = b → d < f → (∀ k, i ≤ k → k < b → wiD (t k) = true) → f_X6_numberAt_5 f 260 (nI b) (nI acc) (nI i) σ = some (nI (wdN t i d acc), σ) := by
  intro d
  induction d with
  | zero =>
    intro i f acc hi hf hk
    obtain ⟨f, rfl⟩ : ∃ x, f = x + 1 := ⟨f - 1, by omega⟩
    simp -implicitDefEqProofs (disch := omega) only [e_X6_numberAt_5, e_X6_numberAt_5__1, e_X6_numberAt_5__2, e_X6_numberAt_5__3, wx_bd, wx_let, wx_st, wx_lit, wx_ga, wx_sa, pk_mul, nI_add, wx_le, wx_lt, wx_eq, wx_en, wx_ne', wx_nn, wx_ltn, wx_len, wx_nlt, wx_nle, wx_bz0, wx_bz1, if_pos, if_neg, wx_ite, Nat.reduceEqDiff, eq_self, if_true, if_false, not_true_eq_false, not_false_eq_true]
    rfl
  | succ d ih =>
    intro i f acc hi hf hk
    obtain ⟨f, rfl⟩ : ∃ x, f = x + 1 := ⟨f - 1, by omega⟩
    obtain ⟨t1, t2⟩ := ht i (by omega)
    have c := hk i (Nat.le_refl _) (by omega)
    simp only [wiD, Bool.and_eq_true, decide_eq_true_eq] at c
    have sb : nI (acc * 10 + t i) - nI 48 = nI (acc * 10 + t i - 48) := wx_sub (by omega)
    have st := ih (i + 1) f (acc * 10 + t i - 48) (by omega) (by omega) (fun k h1 h2 => hk k (by omega) h2)
    simp -implicitDefEqProofs (disch := omega) only [e_X6_numberAt_5, e_X6_numberAt_5__1, e_X6_numberAt_5__2, e_X6_numberAt_5__3, t1, sb, wx_bd, wx_let, wx_st, wx_lit, wx_ga, wx_sa, pk_mul, nI_add, wx_le, wx_lt, wx_eq, wx_en, wx_ne', wx_nn, wx_ltn, wx_len, wx_nlt, wx_nle, wx_bz0, wx_bz1, if_pos, if_neg, wx_ite, Nat.reduceEqDiff, eq_self, if_true, if_false, not_true_eq_false, not_false_eq_true]
    exact st
set_option maxHeartbeats 1000000 in
/-- runs of letters, of digits -/
theorem wl_b46 (hn : n ≤ 400) (h2 : σ 260 2 = nI n) (ht : ∀ i, i < n → σ 261 i = nI (t i) ∧ t i < 256) {x2 : Int32} (k22 : Nat → Int32 → wg_M → Option (Int32 × wg_M)) : ∀ d i f, i + d = n → d < f → f_X6_begin_46 k22 f 260 (nI i) x2 σ = f_X6_begin_72 k22 260 (nI (wrr (fun k => wiL (t k)) n i)) x2 σ := by
  intro d
  induction d with
  | zero =>
    intro i f hi hf
    obtain ⟨f, rfl⟩ : ∃ x, f = x + 1 := ⟨f - 1, by omega⟩
    rw [wrr_end (by omega)]
    simp -implicitDefEqProofs (disch := omega) only [e_X6_begin_46, e_X6_begin_46__1, e_X6_begin_46__2, e_X6_begin_46__3, h2, wx_bd, wx_let, wx_st, wx_lit, wx_ga, wx_sa, pk_mul, nI_add, wx_le, wx_lt, wx_eq, wx_en, wx_ne', wx_nn, wx_ltn, wx_len, wx_nlt, wx_nle, wx_bz0, wx_bz1, if_pos, if_neg, wx_ite, Nat.reduceEqDiff, eq_self, if_true, if_false, not_true_eq_false, not_false_eq_true]
  | succ d ih =>
    intro i f hi hf
    obtain ⟨f, rfl⟩ : ∃ x, f = x + 1 := ⟨f - 1, by omega⟩
    obtain ⟨t1, t2⟩ := ht i (by omega)
    by_cases c : wiL (t i) = true
    · rw [wrr_yes (p := fun k => wiL (t k)) (by omega) c, ← ih (i + 1) f (by omega) (by omega)]
      have m := wl_cL1 (σ := σ) t2 c
      simp -implicitDefEqProofs (disch := omega) only [e_X6_begin_46, e_X6_begin_46__1, e_X6_begin_46__2, e_X6_begin_46__3, h2, t1, m, wx_bd, wx_let, wx_st, wx_lit, wx_ga, wx_sa, pk_mul, nI_add, wx_le, wx_lt, wx_eq, wx_en, wx_ne', wx_nn, wx_ltn, wx_len, wx_nlt, wx_nle, wx_bz0, wx_bz1, if_pos, if_neg, wx_ite, Nat.reduceEqDiff, eq_self, if_true, if_false, not_true_eq_false, not_false_eq_true]
    · rw [wrr_no (p := fun k => wiL (t k)) c]
      have m := wl_cL0 (σ := σ) t2 c
      simp -implicitDefEqProofs (disch := omega) only [e_X6_begin_46, e_X6_begin_46__1, e_X6_begin_46__2, e_X6_begin_46__3, h2, t1, m, wx_bd, wx_let, wx_st, wx_lit, wx_ga, wx_sa, pk_mul, nI_add, wx_le, wx_lt, wx_eq, wx_en, wx_ne', wx_nn, wx_ltn, wx_len, wx_nlt, wx_nle, wx_bz0, wx_bz1, if_pos, if_neg, wx_ite, Nat.reduceEqDiff, eq_self, if_true, if_false, not_true_eq_false, not_false_eq_true]
set_option maxHeartbeats 1000000 in
theorem wl_b99 (hn : n ≤ 400) (h2 : σ 260 2 = nI n) (ht : ∀ i, i < n → σ 261 i = nI (t i) ∧ t i < 256) {x2 : Int32} (k22 : Nat → Int32 → wg_M → Option (Int32 × wg_M)) : ∀ d i f, i + d = n → d < f → f_X6_begin_99 k22 f 260 (nI i) x2 σ = f_X6_begin_125 k22 260 (nI (wrr (fun k => wiD (t k)) n i)) x2 σ := by
  intro d
  induction d with
  | zero =>
    intro i f hi hf
    obtain ⟨f, rfl⟩ : ∃ x, f = x + 1 := ⟨f - 1, by omega⟩
    rw [wrr_end (by omega)]
    simp -implicitDefEqProofs (disch := omega) only [e_X6_begin_99, e_X6_begin_99__1, e_X6_begin_99__2, e_X6_begin_99__3, h2, wx_bd, wx_let, wx_st, wx_lit, wx_ga, wx_sa, pk_mul, nI_add, wx_le, wx_lt, wx_eq, wx_en, wx_ne', wx_nn, wx_ltn, wx_len, wx_nlt, wx_nle, wx_bz0, wx_bz1, if_pos, if_neg, wx_ite, Nat.reduceEqDiff, eq_self, if_true, if_false, not_true_eq_false, not_false_eq_true]
  | succ d ih =>
    intro i f hi hf
    obtain ⟨f, rfl⟩ : ∃ x, f = x + 1 := ⟨f - 1, by omega⟩
    obtain ⟨t1, t2⟩ := ht i (by omega)
    by_cases c : wiD (t i) = true
    · rw [wrr_yes (p := fun k => wiD (t k)) (by omega) c, ← ih (i + 1) f (by omega) (by omega)]
      have m := wl_cD1 (σ := σ) t2 c
      simp -implicitDefEqProofs (disch := omega) only [e_X6_begin_99, e_X6_begin_99__1, e_X6_begin_99__2, e_X6_begin_99__3, h2, t1, m, wx_bd, wx_let, wx_st, wx_lit, wx_ga, wx_sa, pk_mul, nI_add, wx_le, wx_lt, wx_eq, wx_en, wx_ne', wx_nn, wx_ltn, wx_len, wx_nlt, wx_nle, wx_bz0, wx_bz1, if_pos, if_neg, wx_ite, Nat.reduceEqDiff, eq_self, if_true, if_false, not_true_eq_false, not_false_eq_true]
    · rw [wrr_no (p := fun k => wiD (t k)) c]
      have m := wl_cD0 (σ := σ) t2 c
      simp -implicitDefEqProofs (disch := omega) only [e_X6_begin_99, e_X6_begin_99__1, e_X6_begin_99__2, e_X6_begin_99__3, h2, t1, m, wx_bd, wx_let, wx_st, wx_lit, wx_ga, wx_sa, pk_mul, nI_add, wx_le, wx_lt, wx_eq, wx_en, wx_ne', wx_nn, wx_ltn, wx_len, wx_nlt, wx_nle, wx_bz0, wx_bz1, if_pos, if_neg, wx_ite, Nat.reduceEqDiff, eq_self, if_true, if_false, not_true_eq_false, not_false_eq_true]
set_option maxHeartbeats 1000000 in
theorem wl_adT {j : Nat} (hj : j ≤ 400) (h6 : σ 260 6 = nI j) (a b c : Int32) : f_X6_addToken 260 a b c σ = some (nI 0, wg_u (wg_u (wg_u (wg_u σ 262 j a) 263 j b) 264 j c) 260 6 (nI (j + 1))) := by
  have e : Int32.ofNat 401 = nI 401 := rfl
  simp -implicitDefEqProofs (disch := omega) only [e_X6_addToken, e_X6_addToken__1, e_X6_addToken__2, e_X6_addToken__3, e_X6_addToken__4, e, h6, wx_uk, wx_un, pk_us, pk_un, wx_bd, wx_let, wx_st, wx_lit, wx_ga, wx_sa, pk_mul, nI_add, wx_le, wx_lt, wx_eq, wx_en, wx_ne', wx_nn, wx_ltn, wx_len, wx_nlt, wx_nle, wx_bz0, wx_bz1, if_pos, if_neg, wx_ite, Nat.reduceEqDiff, eq_self, if_true, if_false, not_true_eq_false, not_false_eq_true]
/-- tokens that were found -/
def wTq (t : Nat → Nat) (n j : Nat) (σ : wg_M) : Prop := σ 260 6 = nI j ∧ ∀ i, i < j → σ 262 i = nI (wKd (wTS t n i) (wTV t n i)) ∧ (wTS t n i = 3 → σ 263 i = nI (wTV t n i)) ∧ σ 264 i = nI (wTF t n i)
set_option maxHeartbeats 1000000 in
theorem wTq_s {j : Nat} {a b c : Int32} (h : wTq t n j σ) (ha : a = nI (wKd (wTS t n j) (wTV t n j))) (hb : wTS t n j = 3 → b = nI (wTV t n j)) (hc : c = nI (wTF t n j)) : wTq t n (j + 1) (wg_u (wg_u (wg_u (wg_u σ 262 j a) 263 j b) 264 j c) 260 6 (nI (j + 1))) := by
  obtain ⟨h1, h2⟩ := h
  refine ⟨by rw [wx_uk, pk_us], fun i hi => ?_⟩
  by_cases e : i = j
  · subst e
    simp -implicitDefEqProofs (disch := omega) only [wx_uk, wx_un, pk_us, pk_un]
    exact ⟨ha, hb, hc⟩
  · simp -implicitDefEqProofs (disch := omega) only [wx_uk, wx_un, pk_us, pk_un]
    exact h2 i (by omega)
end BG

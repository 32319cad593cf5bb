def wTp (t : Nat → Nat) (n : Nat) (τ : wg_M) : Prop := τ 0 15 = nI n ∧ (∀ i, i < n → τ 9 i = nI (t i) ∧ t i < 256) ∧ ∀ i, i < 129 → τ 10 i = nI (wMs.getD i 0)
section RD
variable {t : Nat → Nat} {n : Nat} {τ : wg_M}
set_option maxHeartbeats 1000000 in
theorem wTp_fr {τ' : wg_M} (h : wTp t n τ) (e : ∀ a i, ((a = 0 ∧ i = 15) ∨ a = 9 ∨ a = 10) → τ' a i = τ a i) : wTp t n τ' := by
  obtain ⟨h1, h2, h3⟩ := h
  refine ⟨by rw [e 0 15 (by omega)]; exact h1, fun i hi => by rw [e 9 i (by omega)]; exact h2 i hi, fun i hi => by rw [e 10 i (by omega)]; exact h3 i hi⟩
set_option maxHeartbeats 1000000 in
theorem wl_raw1 (hn : n ≤ 400) (h : wTp t n τ) {i : Nat} (hi : i < n) : f_X12_raw 0 (nI i) τ = some (nI (t i), τ) := by
  have e1 := h.1
  have e2 := (h.2.1 i hi).1
  simp -implicitDefEqProofs (disch := omega) only [e_X12_raw, e_X12_raw__1, e1, e2, wx_bd, wx_let, wx_st, wx_lit, wx_ga, wx_sa, pk_mul, nI_add, wx_le, wx_lt, wx_eq, wx_en, wx_ne', wx_nn, wx_ltn, wx_len, wx_nlt, wx_nle, wx_bz0, wx_bz1, if_pos, if_neg, wx_ite, Nat.reduceEqDiff, eq_self, if_true, if_false, not_true_eq_false, not_false_eq_true]
set_option maxHeartbeats 1000000 in
theorem wl_raw0 (hn : n ≤ 400) (h : wTp t n τ) {i : Nat} (hi : n ≤ i) (hi2 : i < 100000) : f_X12_raw 0 (nI i) τ = some (-nI 1, τ) := by
  have e1 := h.1
  simp -implicitDefEqProofs (disch := omega) only [e_X12_raw, e_X12_raw__1, e1, wx_bd, wx_let, wx_st, wx_lit, wx_ga, wx_sa, pk_mul, nI_add, wx_le, wx_lt, wx_eq, wx_en, wx_ne', wx_nn, wx_ltn, wx_len, wx_nlt, wx_nle, wx_bz0, wx_bz1, if_pos, if_neg, wx_ite, Nat.reduceEqDiff, eq_self, if_true, if_false, not_true_eq_false, not_false_eq_true]
set_option maxHeartbeats 1000000 in
theorem wl_mL1 {b : Nat} (hb : b < 256) (h : wiL b = true) : f_X12_isLetter 0 (nI b) τ = some (nI 1, τ) := by
  simp only [wiL, Bool.or_eq_true, Bool.and_eq_true, decide_eq_true_eq] at h
  by_cases c : 97 ≤ b
  · simp -implicitDefEqProofs (disch := omega) only [e_X12_isLetter, e_X12_isLetter__1, e_X12_isLetter__2, e_X12_isLetter_24, e_X12_isIn, wx_bd, wx_let, wx_st, wx_lit, wx_ga, wx_sa, pk_mul, nI_add, wx_le, wx_lt, wx_eq, wx_en, wx_ne', wx_nn, wx_ltn, wx_len, wx_nlt, wx_nle, wx_bz0, wx_bz1, if_pos, if_neg, wx_ite, Nat.reduceEqDiff, eq_self, if_true, if_false, not_true_eq_false, not_false_eq_true]
  · simp -implicitDefEqProofs (disch := omega) only [e_X12_isLetter, e_X12_isLetter__1, e_X12_isLetter__2, e_X12_isLetter_24, e_X12_isIn, wx_bd, wx_let, wx_st, wx_lit, wx_ga, wx_sa, pk_mul, nI_add, wx_le, wx_lt, wx_eq, wx_en, wx_ne', wx_nn, wx_ltn, wx_len, wx_nlt, wx_nle, wx_bz0, wx_bz1, if_pos, if_neg, wx_ite, Nat.reduceEqDiff, eq_self, if_true, if_false, not_true_eq_false, not_false_eq_true]
set_option maxHeartbeats 1000000 in
theorem wl_mL0 {b : Nat} (hb : b < 256) (h : ¬ wiL b = true) : f_X12_isLetter 0 (nI b) τ = some (nI 0, τ) := by
  simp only [wiL, Bool.or_eq_true, Bool.and_eq_true, decide_eq_true_eq] at h
  rcases (show b < 65 ∨ (90 < b ∧ b < 97) ∨ 122 < b by omega) with c | c | c
  · simp -implicitDefEqProofs (disch := omega) only [e_X12_isLetter, e_X12_isLetter__1, e_X12_isLetter__2, e_X12_isLetter_24, e_X12_isIn, wx_bd, wx_let, wx_st, wx_lit, wx_ga, wx_sa, pk_mul, nI_add, wx_le, wx_lt, wx_eq, wx_en, wx_ne', wx_nn, wx_ltn, wx_len, wx_nlt, wx_nle, wx_bz0, wx_bz1, if_pos, if_neg, wx_ite, Nat.reduceEqDiff, eq_self, if_true, if_false, not_true_eq_false, not_false_eq_true]
  · simp -implicitDefEqProofs (disch := omega) only [e_X12_isLetter, e_X12_isLetter__1, e_X12_isLetter__2, e_X12_isLetter_24, e_X12_isIn, wx_bd, wx_let, wx_st, wx_lit, wx_ga, wx_sa, pk_mul, nI_add, wx_le, wx_lt, wx_eq, wx_en, wx_ne', wx_nn, wx_ltn, wx_len, wx_nlt, wx_nle, wx_bz0, wx_bz1, if_pos, if_neg, wx_ite, Nat.reduceEqDiff, eq_self, if_true, if_false, not_true_eq_false, not_false_eq_true]
  · simp -implicitDefEqProofs (disch := omega) only [e_X12_isLetter, e_X12_isLetter__1, e_X12_isLetter__2, e_X12_isLetter_24, e_X12_isIn, wx_bd, wx_let, wx_st, wx_lit, wx_ga, wx_sa, pk_mul, nI_add, wx_le, wx_lt, wx_eq, wx_en, wx_ne', wx_nn, wx_ltn, wx_len, wx_nlt, wx_nle, wx_bz0, wx_bz1, if_pos, if_neg, wx_ite, Nat.reduceEqDiff, eq_self, if_true, if_false, not_true_eq_false, not_false_eq_true]
set_option maxHeartbeats 1000000 in
theorem wx_n1lt {a : Nat} (ha : a < 2147483648) : (-nI 1 < nI a) = True := wx_nlt ha (by omega) (by omega)
set_option maxHeartbeats 1000000 in
theorem wl_mLn : f_X12_isLetter 0 (-nI 1) τ = some (nI 0, τ) := by
  simp -implicitDefEqProofs (disch := omega) only [e_X12_isLetter, e_X12_isLetter__1, e_X12_isLetter__2, e_X12_isIn, wx_bd, wx_let, wx_st, wx_lit, wx_ga, wx_sa, pk_mul, nI_add, wx_le, wx_lt, wx_eq, wx_en, wx_ne', wx_nn, wx_ltn, wx_len, wx_nlt, wx_nle, wx_bz0, wx_bz1, if_pos, if_neg, wx_ite, Nat.reduceEqDiff, eq_self, if_true, if_false, not_true_eq_false, not_false_eq_true]
set_option maxHeartbeats 1000000 in
theorem wl_mD1 {b : Nat} (hb : b < 256) (h : wiD b = true) : f_X12_isDigit 0 (nI b) τ = some (nI 1, τ) := by
  simp only [wiD, Bool.and_eq_true, decide_eq_true_eq] at h
  simp -implicitDefEqProofs (disch := omega) only [e_X12_isDigit, e_X12_isDigit__1, e_X12_isIn, wx_bd, wx_let, wx_st, wx_lit, wx_ga, wx_sa, pk_mul, nI_add, wx_le, wx_lt, wx_eq, wx_en, wx_ne', wx_nn, wx_ltn, wx_len, wx_nlt, wx_nle, wx_bz0, wx_bz1, if_pos, if_neg, wx_ite, Nat.reduceEqDiff, eq_self, if_true, if_false, not_true_eq_false, not_false_eq_true]
set_option maxHeartbeats 1000000 in
theorem wl_mD0 {b : Nat} (hb : b < 256) (h : ¬ wiD b = true) : f_X12_isDigit 0 (nI b) τ = some (nI 0, τ) := by
  simp only [wiD, Bool.and_eq_true, decide_eq_true_eq] at h
  rcases (show b < 48 ∨ 57 < b by omega) with c | c
  · simp -implicitDefEqProofs (disch := omega) only [e_X12_isDigit, e_X12_isDigit__1, e_X12_isIn, wx_bd, wx_let, wx_st, wx_lit, wx_ga, wx_sa, pk_mul, nI_add, wx_le, wx_lt, wx_eq, wx_en, wx_ne', wx_nn, wx_ltn, wx_len, wx_nlt, wx_nle, wx_bz0, wx_bz1, if_pos, if_neg, wx_ite, Nat.reduceEqDiff, eq_self, if_true, if_false, not_true_eq_false, not_false_eq_true]
  · simp -implicitDefEqProofs (disch := omega) only [e_X12_isDigit, e_X12_isDigit__1, e_X12_isIn, wx_bd, wx_let, wx_st, wx_lit, wx_ga, wx_sa, pk_mul, nI_add, wx_le, wx_lt, wx_eq, wx_en, wx_ne', wx_nn, wx_ltn, wx_len, wx_nlt, wx_nle, wx_bz0, wx_bz1, if_pos, if_neg, wx_ite, Nat.reduceEqDiff, eq_self, if_true, if_false, not_true_eq_false, not_false_eq_true]
set_option maxHeartbeats 1000000 in
theorem wl_mDn : f_X12_isDigit 0 (-nI 1) τ = some (nI 0, τ) := by
  simp -implicitDefEqProofs (disch := omega) only [e_X12_isDigit, e_X12_isDigit__1, e_X12_isIn, wx_bd, wx_let, wx_st, wx_lit, wx_ga, wx_sa, pk_mul, nI_add, wx_le, wx_lt, wx_eq, wx_en, wx_ne', wx_nn, wx_ltn, wx_len, wx_nlt, wx_nle, wx_bz0, wx_bz1, if_pos, if_neg, wx_ite, Nat.reduceEqDiff, eq_self, if_true, if_false, not_true_eq_false, not_false_eq_true]
set_option maxHeartbeats 1000000 in
theorem wl_mS1 {b : Nat} (hb : b < 256) (h : wiS b = true) : f_X12_isMarkSign 0 (nI b) τ = some (nI 1, τ) := by
  simp only [wiS, Bool.or_eq_true, beq_iff_eq] at h
  rcases h with ((((((((rfl | rfl) | rfl) | rfl) | rfl) | rfl) | rfl) | rfl) | rfl) | rfl <;> simp -implicitDefEqProofs (disch := omega) only [e_X12_isMarkSign, e_X12_isMarkSign_60, wx_bd, wx_let, wx_st, wx_lit, wx_ga, wx_sa, pk_mul, nI_add, wx_le, wx_lt, wx_eq, wx_en, wx_ne', wx_nn, wx_ltn, wx_len, wx_nlt, wx_nle, wx_bz0, wx_bz1, if_pos, if_neg, wx_ite, Nat.reduceEqDiff, eq_self, if_true, if_false, not_true_eq_false, not_false_eq_true]
set_option maxHeartbeats 1000000 in
theorem wl_mS0 {b : Nat} (hb : b < 256) (h : ¬ wiS b = true) : f_X12_isMarkSign 0 (nI b) τ = some (nI 0, τ) := by
  simp only [wiS, Bool.or_eq_true, beq_iff_eq] at h
  simp -implicitDefEqProofs (disch := omega) only [e_X12_isMarkSign, wx_bd, wx_let, wx_st, wx_lit, wx_ga, wx_sa, pk_mul, nI_add, wx_le, wx_lt, wx_eq, wx_en, wx_ne', wx_nn, wx_ltn, wx_len, wx_nlt, wx_nle, wx_bz0, wx_bz1, if_pos, if_neg, wx_ite, Nat.reduceEqDiff, eq_self, if_true, if_false, not_true_eq_false, not_false_eq_true]
set_option maxHeartbeats 1000000 in
/-- blanks -/
theorem wl_rd0 (hn : n ≤ 400) : ∀ d p f τ, p + d = n → d < f → wTp t n τ → τ 0 16 = nI p → ∃ τ' g, f_X12_reads_0 f 0 τ = f_X12_reads_0 (g + 1) 0 τ' ∧ τ' 0 16 = nI (wsk t n p) ∧ ∀ a i, ¬ (a = 0 ∧ i = 16) → τ' a i = τ a i := by
  intro d
  induction d with
  | zero =>
    intro p f τ hp hf hT h16
    obtain ⟨f, rfl⟩ : ∃ x, f = x + 1 := ⟨f - 1, by omega⟩
    have e : wsk t n p = p := wrr_end (by omega)
    exact ⟨τ, f, rfl, by rw [e]; exact h16, fun _ _ _ => rfl⟩
  | succ d ih =>
    intro p f τ hp hf hT h16
    obtain ⟨f, rfl⟩ : ∃ x, f = x + 1 := ⟨f - 1, by omega⟩
    by_cases c : wiB (t p) = true
    · have e : wsk t n p = wsk t n (p + 1) := wrr_yes (p := fun k => wiB (t k)) (by omega) c
      have r := wl_raw1 hn hT (show p < n by omega)
      obtain ⟨τ', g, g1, g2, g3⟩ := ih (p + 1) f (wg_u τ 0 16 (nI (p + 1))) (by omega) (by omega) (wTp_fr hT (fun a i q => by rw [wx_ur, if_neg (by omega)])) (by rw [wx_uk, pk_us])
      refine ⟨τ', g, ?_, by rw [e]; exact g2, fun a i q => by rw [g3 a i q, wx_ur, if_neg q]⟩
      rw [← g1]
      have tb := (hT.2.1 p (by omega)).2
      simp only [wiB, Bool.or_eq_true, beq_iff_eq] at c
      rcases c with c | c
      · rw [c] at r
        simp -implicitDefEqProofs (disch := omega) only [e_X12_reads_0, e_X12_reads_0__1, e_X12_reads_0__2, e_X12_reads_0__3, e_X12_reads_0__4, e_X12_reads_0__5, e_X12_reads_0__6, e_X12_reads_0__7, e_X12_reads_0__8, e_X12_reads_0__9, e_X12_reads_0__10, e_X12_reads_0__11, e_X12_reads_0__12, e_X12_reads_0__13, e_X12_reads_26, e_X12_reads_26__1, h16, r, wx_bd, wx_let, wx_st, wx_lit, wx_ga, wx_sa, pk_mul, nI_add, wx_le, wx_lt, wx_eq, wx_en, wx_ne', wx_nn, wx_ltn, wx_len, wx_nlt, wx_nle, wx_bz0, wx_bz1, if_pos, if_neg, wx_ite, Nat.reduceEqDiff, eq_self, if_true, if_false, not_true_eq_false, not_false_eq_true]
      · rw [c] at r
        simp -implicitDefEqProofs (disch := omega) only [e_X12_reads_0, e_X12_reads_0__1, e_X12_reads_0__2, e_X12_reads_0__3, e_X12_reads_0__4, e_X12_reads_0__5, e_X12_reads_0__6, e_X12_reads_0__7, e_X12_reads_0__8, e_X12_reads_0__9, e_X12_reads_0__10, e_X12_reads_0__11, e_X12_reads_0__12, e_X12_reads_0__13, e_X12_reads_26, e_X12_reads_26__1, h16, r, wx_bd, wx_let, wx_st, wx_lit, wx_ga, wx_sa, pk_mul, nI_add, wx_le, wx_lt, wx_eq, wx_en, wx_ne', wx_nn, wx_ltn, wx_len, wx_nlt, wx_nle, wx_bz0, wx_bz1, if_pos, if_neg, wx_ite, Nat.reduceEqDiff, eq_self, if_true, if_false, not_true_eq_false, not_false_eq_true]
    · have e : wsk t n p = p := wrr_no (p := fun k => wiB (t k)) c
      exact ⟨τ, f, rfl, by rw [e]; exact h16, fun _ _ _ => rfl⟩
set_option maxHeartbeats 1000000 in
/-- letters -/
theorem wl_rd95 (hn : n ≤ 400) : ∀ d p f τ, p + d = n → d < f → wTp t n τ → τ 0 16 = nI p → ∃ τ', f_X12_reads_95 f 0 τ = wg_bd (f_X12_wordAt 0 (τ 0 17) (nI (wrr (fun k => wiL (t k)) n p)) τ') (fun v s => wg_st s 0 19 v (fun s => if s 0 19 = -nI 1 then some (nI 0, s) else wg_st s 0 18 (nI 2) (fun s => some (nI 0, s)))) ∧ τ' 0 16 = nI (wrr (fun k => wiL (t k)) n p) ∧ ∀ a i, ¬ (a = 0 ∧ i = 16) → τ' a i = τ a i := by
  intro d
  induction d with
  | zero =>
    intro p f τ hp hf hT h16
    obtain ⟨f, rfl⟩ : ∃ x, f = x + 1 := ⟨f - 1, by omega⟩
    rw [wrr_end (by omega)]
    have r := wl_raw0 hn hT (show n ≤ p by omega) (by omega)
    refine ⟨τ, ?_, h16, fun _ _ _ => rfl⟩
    simp -implicitDefEqProofs (disch := omega) only [e_X12_reads_95, e_X12_reads_95__1, e_X12_reads_95__2, e_X12_reads_95__3, e_X12_reads_95__4, e_X12_reads_95__5, e_X12_reads_95__6, h16, r, wl_mLn, wx_bd, wx_let, wx_st, wx_lit, wx_ga, wx_sa, pk_mul, nI_add, wx_le, wx_lt, wx_eq, wx_en, wx_ne', wx_nn, wx_ltn, wx_len, wx_nlt, wx_nle, wx_bz0, wx_bz1, if_pos, if_neg, wx_ite, Nat.reduceEqDiff, eq_self, if_true, if_false, not_true_eq_false, not_false_eq_true]
    rfl
  | succ d ih =>
    intro p f τ hp hf hT h16
    obtain ⟨f, rfl⟩ : ∃ x, f = x + 1 := ⟨f - 1, by omega⟩
    have r := wl_raw1 hn hT (show p < n by omega)
    have tb := (hT.2.1 p (by omega)).2
    by_cases c : wiL (t p) = true
    · rw [wrr_yes (p := fun k => wiL (t k)) (by omega) c]
      have m := wl_mL1 (τ := τ) tb c
      obtain ⟨τ', g1, g2, g3⟩ := ih (p + 1) f (wg_u τ 0 16 (nI (p + 1))) (by omega) (by omega) (wTp_fr hT (fun a i q => by rw [wx_ur, if_neg (by omega)])) (by rw [wx_uk, pk_us])
      refine ⟨τ', ?_, g2, fun a i q => by rw [g3 a i q, wx_ur, if_neg q]⟩
      rw [wx_uk, pk_un (by omega)] at g1
      rw [← g1]
      simp -implicitDefEqProofs (disch := omega) only [e_X12_reads_95, e_X12_reads_95__1, e_X12_reads_95__2, e_X12_reads_95__3, e_X12_reads_95__4, e_X12_reads_95__5, e_X12_reads_95__6, h16, r, m, wx_bd, wx_let, wx_st, wx_lit, wx_ga, wx_sa, pk_mul, nI_add, wx_le, wx_lt, wx_eq, wx_en, wx_ne', wx_nn, wx_ltn, wx_len, wx_nlt, wx_nle, wx_bz0, wx_bz1, if_pos, if_neg, wx_ite, Nat.reduceEqDiff, eq_self, if_true, if_false, not_true_eq_false, not_false_eq_true]
    · rw [wrr_no (p := fun k => wiL (t k)) c]
      have m := wl_mL0 (τ := τ) tb c
      refine ⟨τ, ?_, h16, fun _ _ _ => rfl⟩
      simp -implicitDefEqProofs (disch := omega) only [e_X12_reads_95, e_X12_reads_95__1, e_X12_reads_95__2, e_X12_reads_95__3, e_X12_reads_95__4, e_X12_reads_95__5, e_X12_reads_95__6, h16, r, m, wx_bd, wx_let, wx_st, wx_lit, wx_ga, wx_sa, pk_mul, nI_add, wx_le, wx_lt, wx_eq, wx_en, wx_ne', wx_nn, wx_ltn, wx_len, wx_nlt, wx_nle, wx_bz0, wx_bz1, if_pos, if_neg, wx_ite, Nat.reduceEqDiff, eq_self, if_true, if_false, not_true_eq_false, not_false_eq_true]
      rfl
set_option maxHeartbeats 1000000 in
/-- digits -/
theorem wl_rd171 (hn : n ≤ 400) {q : Nat} (hq : q < n) (hd : ∀ k, q ≤ k → k < wrr (fun k => wiD (t k)) n (q + 1) → wiD (t k) = true) : ∀ d p f τ, p + d = n → q < p → p ≤ wrr (fun k => wiD (t k)) n (q + 1) → wrr (fun k => wiD (t k)) n p = wrr (fun k => wiD (t k)) n (q + 1) → d < f → wTp t n τ → τ 0 16 = nI p → τ 0 17 = nI q → (p - q ≤ 4 → τ 0 19 = nI (wdN t q (p - q) 0)) → ∃ τ' v, f_X12_reads_171 f 0 τ = (if 5 ≤ wrr (fun k => wiD (t k)) n (q + 1) - q then some (nI 0, τ') else some (nI 0, wg_u τ' 0 18 (nI 3))) ∧ τ' 0 16 = nI (wrr (fun k => wiD (t k)) n (q + 1)) ∧ τ' 0 19 = v ∧ (wrr (fun k => wiD (t k)) n (q + 1) - q ≤ 4 → v = nI (wdN t q (wrr (fun k => wiD (t k)) n (q + 1) - q) 0)) ∧ ∀ a i, ¬ (a = 0 ∧ (i = 16 ∨ i = 19)) → τ' a i = τ a i := by
  intro d
  have en := (wrr_f (fun k => wiD (t k)) n (n - (q + 1)) (q + 1) (by omega)).2.1
  generalize hE : wrr (fun k => wiD (t k)) n (q + 1) = E at *
  induction d with
  | zero =>
    intro p f τ hp hqp hpE hw hf hT h16 h17 h19
    obtain ⟨f, rfl⟩ : ∃ x, f = x + 1 := ⟨f - 1, by omega⟩
    rw [wrr_end (by omega)] at hw
    subst hw
    have r := wl_raw0 hn hT (show n ≤ p by omega) (by omega)
    have sb : nI p - nI q = nI (p - q) := wx_sub (by omega)
    refine ⟨τ, τ 0 19, ?_, h16, rfl, h19, fun _ _ _ => rfl⟩
    by_cases c : 5 ≤ p - q
    · rw [if_pos c]
      simp -implicitDefEqProofs (disch := omega) only [e_X12_reads_171, e_X12_reads_171__1, e_X12_reads_171__2, e_X12_reads_171__3, e_X12_reads_171__4, h16, h17, r, wl_mDn, sb, wx_bd, wx_let, wx_st, wx_lit, wx_ga, wx_sa, pk_mul, nI_add, wx_le, wx_lt, wx_eq, wx_en, wx_ne', wx_nn, wx_ltn, wx_len, wx_nlt, wx_nle, wx_bz0, wx_bz1, if_pos, if_neg, wx_ite, Nat.reduceEqDiff, eq_self, if_true, if_false, not_true_eq_false, not_false_eq_true]
    · rw [if_neg c]
      simp -implicitDefEqProofs (disch := omega) only [e_X12_reads_171, e_X12_reads_171__1, e_X12_reads_171__2, e_X12_reads_171__3, e_X12_reads_171__4, h16, h17, r, wl_mDn, sb, wx_bd, wx_let, wx_st, wx_lit, wx_ga, wx_sa, pk_mul, nI_add, wx_le, wx_lt, wx_eq, wx_en, wx_ne', wx_nn, wx_ltn, wx_len, wx_nlt, wx_nle, wx_bz0, wx_bz1, if_pos, if_neg, wx_ite, Nat.reduceEqDiff, eq_self, if_true, if_false, not_true_eq_false, not_false_eq_true]
  | succ d ih =>
    intro p f τ hp hqp hpE hw hf hT h16 h17 h19
    obtain ⟨f, rfl⟩ : ∃ x, f = x + 1 := ⟨f - 1, by omega⟩
    have r := wl_raw1 hn hT (show p < n by omega)
    have tb := (hT.2.1 p (by omega)).2
    by_cases c : wiD (t p) = true
    · have w1 := wrr_yes (p := fun k => wiD (t k)) (show p < n by omega) c
      rw [w1] at hw
      have m := wl_mD1 (τ := τ) tb c
      have pE : p + 1 ≤ E := by
        have := (wrr_f (fun k => wiD (t k)) n (n - (p + 1)) (p + 1) (by omega)).1
        omega
      have key : ∀ x : Int32, f_X12_reads_171 (f + 1) 0 τ = f_X12_reads_171 f 0 (wg_u (wg_u τ 0 19 x) 0 16 (nI (p + 1))) → (p + 1 - q ≤ 4 → x = nI (wdN t q (p + 1 - q) 0)) → ∃ τ' v, f_X12_reads_171 (f + 1) 0 τ = (if 5 ≤ E - q then some (nI 0, τ') else some (nI 0, wg_u τ' 0 18 (nI 3))) ∧ τ' 0 16 = nI E ∧ τ' 0 19 = v ∧ (E - q ≤ 4 → v = nI (wdN t q (E - q) 0)) ∧ ∀ a i, ¬ (a = 0 ∧ (i = 16 ∨ i = 19)) → τ' a i = τ a i := fun x ex hx => by
        obtain ⟨τ', v, g1, g2, g3, g4, g5⟩ := ih (p + 1) f (wg_u (wg_u τ 0 19 x) 0 16 (nI (p + 1))) (by omega) (by omega) pE hw (by omega) (wTp_fr hT (fun a i z => by rw [wx_ur, if_neg (by omega), wx_ur, if_neg (by omega)])) (by rw [wx_uk, pk_us]) (by rw [wx_uk, pk_un (by omega), wx_uk, pk_un (by omega)]; exact h17) (fun z => by rw [wx_uk, pk_un (by omega), wx_uk, pk_us]; exact hx z)
        exact ⟨τ', v, by rw [ex]; exact g1, g2, g3, g4, fun a i z => by rw [g5 a i z, wx_ur, if_neg (by omega), wx_ur, if_neg (by omega)]⟩
      by_cases c4 : nI 10000 ≤ τ 0 19
      · refine key (τ 0 19) ?_ (fun z => ?_)
        · simp -implicitDefEqProofs (disch := omega) only [e_X12_reads_171, e_X12_reads_171__1, e_X12_reads_171__2, e_X12_reads_171__3, e_X12_reads_171__4, e_X12_reads_223, e_X12_reads_223__1, e_X12_reads_223__2, h16, r, m, c4, wx_uk, wx_un, pk_us, pk_un, wx_bd, wx_let, wx_st, wx_lit, wx_ga, wx_sa, pk_mul, nI_add, wx_le, wx_lt, wx_eq, wx_en, wx_ne', wx_nn, wx_ltn, wx_len, wx_nlt, wx_nle, wx_bz0, wx_bz1, if_pos, if_neg, wx_ite, Nat.reduceEqDiff, eq_self, if_true, if_false, not_true_eq_false, not_false_eq_true]
        · exfalso
          rw [h19 (by omega)] at c4
          have b := wdN_b (t := t) (p - q) q 0 (fun k h1 h2 => hd k (by omega) (by omega))
          have p3 := Nat.pow_le_pow_right (show 0 < 10 by omega) (show p - q ≤ 3 by omega)
          have p4 : (10 : Nat) ^ 3 = 1000 := by decide
          rw [wx_le (by omega) (by omega)] at c4
          omega
      · refine key ((nI 10 * τ 0 19 + nI (t p)) - nI 48) ?_ (fun z => ?_)
        · simp -implicitDefEqProofs (disch := omega) only [e_X12_reads_171, e_X12_reads_171__1, e_X12_reads_171__2, e_X12_reads_171__3, e_X12_reads_171__4, e_X12_reads_223, e_X12_reads_223__1, e_X12_reads_223__2, h16, r, m, c4, wx_uk, wx_un, pk_us, pk_un, wx_bd, wx_let, wx_st, wx_lit, wx_ga, wx_sa, pk_mul, nI_add, wx_le, wx_lt, wx_eq, wx_en, wx_ne', wx_nn, wx_ltn, wx_len, wx_nlt, wx_nle, wx_bz0, wx_bz1, if_pos, if_neg, wx_ite, Nat.reduceEqDiff, eq_self, if_true, if_false, not_true_eq_false, not_false_eq_true]
        · have c' := c
          simp only [wiD, Bool.and_eq_true, decide_eq_true_eq] at c'
          rw [h19 (by omega), pk_mul, nI_add, wx_sub (by omega), show p + 1 - q = p - q + 1 by omega, wdN_s, show q + (p - q) = p by omega]
          show _ = nI (wdN t q (p - q) 0 * 10 + t p - 48)
          rw [Nat.mul_comm]
    · rw [wrr_no (p := fun k => wiD (t k)) c] at hw
      subst hw
      have m := wl_mD0 (τ := τ) tb c
      have sb : nI p - nI q = nI (p - q) := wx_sub (by omega)
      refine ⟨τ, τ 0 19, ?_, h16, rfl, h19, fun _ _ _ => rfl⟩
      by_cases c5 : 5 ≤ p - q
      · rw [if_pos c5]
        simp -implicitDefEqProofs (disch := omega) only [e_X12_reads_171, e_X12_reads_171__1, e_X12_reads_171__2, e_X12_reads_171__3, e_X12_reads_171__4, h16, h17, r, m, sb, wx_bd, wx_let, wx_st, wx_lit, wx_ga, wx_sa, pk_mul, nI_add, wx_le, wx_lt, wx_eq, wx_en, wx_ne', wx_nn, wx_ltn, wx_len, wx_nlt, wx_nle, wx_bz0, wx_bz1, if_pos, if_neg, wx_ite, Nat.reduceEqDiff, eq_self, if_true, if_false, not_true_eq_false, not_false_eq_true]
      · rw [if_neg c5]
        simp -implicitDefEqProofs (disch := omega) only [e_X12_reads_171, e_X12_reads_171__1, e_X12_reads_171__2, e_X12_reads_171__3, e_X12_reads_171__4, h16, h17, r, m, sb, wx_bd, wx_let, wx_st, wx_lit, wx_ga, wx_sa, pk_mul, nI_add, wx_le, wx_lt, wx_eq, wx_en, wx_ne', wx_nn, wx_ltn, wx_len, wx_nlt, wx_nle, wx_bz0, wx_bz1, if_pos, if_neg, wx_ite, Nat.reduceEqDiff, eq_self, if_true, if_false, not_true_eq_false, not_false_eq_true]
end RD

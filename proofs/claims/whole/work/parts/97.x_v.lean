section WM
variable {t : Nat → Nat} {n : Nat} {τ : wg_M}
def wmQ (l : List Nat) : Nat → Nat → Int32
  | 0, _ => -nI 1
  | d + 1, r => if l = wWd.getD r [] then nI r else wmQ l d (r + 1)
set_option maxHeartbeats 1000000 in
theorem wms_lt : ∀ i, i < 129 → wMs.getD i 0 < 256 := by decide +kernel
set_option maxHeartbeats 1000000 in
/-- to the next word of the table -/
theorem wl_v94 (hw : ∀ i, i < 129 → τ 10 i = nI (wMs.getD i 0)) {x1 x2 x3 : Int32} {k5 : Nat → Int32 → Int32 → Int32 → Int32 → wg_M → Option (Int32 × wg_M)} : ∀ d i f, i + d ≤ 128 → d < f → (∀ k, i ≤ k → k < i + d → wMs.getD k 0 ≠ 32) → wMs.getD (i + d) 0 = 32 → f_X12_wordAt_94 k5 f 0 x1 x2 x3 (nI i) τ = k5 0 x1 x2 x3 (nI (i + d)) τ := by
  intro d
  induction d with
  | zero =>
    intro i f hi hf hk he
    obtain ⟨f, rfl⟩ : ∃ x, f = x + 1 := ⟨f - 1, by omega⟩
    have e := hw i (by omega)
    rw [Nat.add_zero] at he
    rw [he] at e
    simp -implicitDefEqProofs (disch := omega) only [e_X12_wordAt_94, e_X12_wordAt_94__1, e_X12_wordAt_94__2, e, wx_bd, wx_let, wx_st, wx_lit, wx_ga, wx_sa, pk_mul, nI_add, wx_le, wx_lt, wx_eq, wx_en, wx_ne', wx_nn, wx_ltn, wx_len, wx_nlt, wx_nle, wx_bz0, wx_bz1, if_pos, if_neg, wx_ite, Nat.reduceEqDiff, eq_self, if_true, if_false, not_true_eq_false, not_false_eq_true]
    rfl
  | succ d ih =>
    intro i f hi hf hk he
    obtain ⟨f, rfl⟩ : ∃ x, f = x + 1 := ⟨f - 1, by omega⟩
    have e := hw i (by omega)
    have ne := hk i (Nat.le_refl _) (by omega)
    have l := wms_lt i (by omega)
    have st := ih (i + 1) f (by omega) (by omega) (fun k h1 h2 => hk k (by omega) (by omega)) (by rw [show i + 1 + d = i + (d + 1) by omega]; exact he)
    rw [show i + 1 + d = i + (d + 1) by omega] at st
    rw [← st]
    generalize wMs.getD i 0 = x at *
    simp -implicitDefEqProofs (disch := omega) only [e_X12_wordAt_94, e_X12_wordAt_94__1, e_X12_wordAt_94__2, e, wx_bd, wx_let, wx_st, wx_lit, wx_ga, wx_sa, pk_mul, nI_add, wx_le, wx_lt, wx_eq, wx_en, wx_ne', wx_nn, wx_ltn, wx_len, wx_nlt, wx_nle, wx_bz0, wx_bz1, if_pos, if_neg, wx_ite, Nat.reduceEqDiff, eq_self, if_true, if_false, not_true_eq_false, not_false_eq_true]
set_option maxHeartbeats 1000000 in
theorem wl_v20 (hn : n ≤ 400) (ht : ∀ i, i < n → τ 9 i = nI (t i) ∧ t i < 256) (hw : ∀ i, i < 129 → τ 10 i = nI (wMs.getD i 0)) {a b : Nat} (hb : b ≤ n) (hl : ∀ i, a ≤ i → i < b → t i ≠ 32) {r : Nat} (hr : r < 26) (k5 : Nat → Int32 → Int32 → Int32 → Int32 → wg_M → Option (Int32 × wg_M)) : ∀ d i f, a + i + d = b → i ≤ wMt8.getD (r + 1) 0 - (wMt8.getD r 0 + 1) → d < f → f_X12_wordAt_20 k5 f 0 (nI a) (nI b) (nI r) (nI (wMt8.getD r 0)) (nI i) τ = if wBy t (a + i) d = wBy (fun i => wMs.getD i 0) (wMt8.getD r 0 + 1 + i) (wMt8.getD (r + 1) 0 - (wMt8.getD r 0 + 1) - i) then some (nI r, τ) else k5 0 (nI a) (nI b) (nI r) (nI (wMt8.getD (r + 1) 0)) τ := by
  obtain ⟨s1, s2, s3, -⟩ := wTbl_m r hr
  have nn := wTbl_k r hr
  generalize wMt8.getD r 0 = s at *
  generalize wMt8.getD (r + 1) 0 = e at *
  have e88 : f_X12_wordAt_88 k5 0 (nI a) (nI b) (nI r) (nI s) τ = k5 0 (nI a) (nI b) (nI r) (nI e) τ := by
    have := wl_v94 (x1 := nI a) (x2 := nI b) (x3 := nI r) (k5 := k5) hw (e - (s + 1)) (s + 1) wg_N (by omega) (by rw [wx_N]; omega) (fun k h1 h2 => nn k (by omega) (by omega) (by omega)) (by rw [show s + 1 + (e - (s + 1)) = e by omega]; exact s3)
    rw [show s + 1 + (e - (s + 1)) = e by omega] at this
    simp -implicitDefEqProofs (disch := omega) only [e_X12_wordAt_88, e_X12_wordAt_88__1, wx_bd, wx_let, wx_st, wx_lit, wx_ga, wx_sa, pk_mul, nI_add, wx_le, wx_lt, wx_eq, wx_en, wx_ne', wx_nn, wx_ltn, wx_len, wx_nlt, wx_nle, wx_bz0, wx_bz1, if_pos, if_neg, wx_ite, Nat.reduceEqDiff, eq_self, if_true, if_false, not_true_eq_false, not_false_eq_true]
    exact this
  intro d
  induction d with
  | zero =>
    intro i f hi hle hf
    obtain ⟨f, rfl⟩ : ∃ x, f = x + 1 := ⟨f - 1, by omega⟩
    have m := hw (s + 1 + i) (by omega)
    by_cases c : e - (s + 1) - i = 0
    · rw [c]
      show _ = if ([] : List Nat) = [] then _ else _
      rw [if_pos rfl]
      rw [show s + 1 + i = e by omega] at m
      rw [s3] at m
      have ee : s + 1 + i = e := by omega
      simp -implicitDefEqProofs (disch := omega) only [e_X12_wordAt_20, e_X12_wordAt_20__1, e_X12_wordAt_20__2, e_X12_wordAt_20__3, e_X12_wordAt_61, e_X12_wordAt_61__1, ee, m, wx_bd, wx_let, wx_st, wx_lit, wx_ga, wx_sa, pk_mul, nI_add, wx_le, wx_lt, wx_eq, wx_en, wx_ne', wx_nn, wx_ltn, wx_len, wx_nlt, wx_nle, wx_bz0, wx_bz1, if_pos, if_neg, wx_ite, Nat.reduceEqDiff, eq_self, if_true, if_false, not_true_eq_false, not_false_eq_true]
    · obtain ⟨x, hx⟩ : ∃ x, e - (s + 1) - i = x + 1 := ⟨e - (s + 1) - i - 1, by omega⟩
      rw [hx, if_neg (fun q => by cases q)]
      have ne := nn (s + 1 + i) (by omega) (by omega) (by omega)
      have l := wms_lt (s + 1 + i) (by omega)
      generalize wMs.getD (s + 1 + i) 0 = y at *
      simp -implicitDefEqProofs (disch := omega) only [e_X12_wordAt_20, e_X12_wordAt_20__1, e_X12_wordAt_20__2, e_X12_wordAt_20__3, e_X12_wordAt_61, e_X12_wordAt_61__1, m, wx_bd, wx_let, wx_st, wx_lit, wx_ga, wx_sa, pk_mul, nI_add, wx_le, wx_lt, wx_eq, wx_en, wx_ne', wx_nn, wx_ltn, wx_len, wx_nlt, wx_nle, wx_bz0, wx_bz1, if_pos, if_neg, wx_ite, Nat.reduceEqDiff, eq_self, if_true, if_false, not_true_eq_false, not_false_eq_true]
      exact e88
  | succ d ih =>
    intro i f hi hle hf
    obtain ⟨f, rfl⟩ : ∃ x, f = x + 1 := ⟨f - 1, by omega⟩
    have m := hw (s + 1 + i) (by omega)
    have l := wms_lt (s + 1 + i) (by omega)
    obtain ⟨t1, t2⟩ := ht (a + i) (by omega)
    have t3 := hl (a + i) (by omega) (by omega)
    by_cases c : e - (s + 1) - i = 0
    · rw [c, if_neg (fun q => by cases q)]
      rw [show s + 1 + i = e by omega] at m
      rw [s3] at m
      have ee : s + 1 + i = e := by omega
      simp -implicitDefEqProofs (disch := omega) only [e_X12_wordAt_20, e_X12_wordAt_20__1, e_X12_wordAt_20__2, e_X12_wordAt_20__3, e_X12_wordAt_61, e_X12_wordAt_61__1, ee, m, t1, wx_bd, wx_let, wx_st, wx_lit, wx_ga, wx_sa, pk_mul, nI_add, wx_le, wx_lt, wx_eq, wx_en, wx_ne', wx_nn, wx_ltn, wx_len, wx_nlt, wx_nle, wx_bz0, wx_bz1, if_pos, if_neg, wx_ite, Nat.reduceEqDiff, eq_self, if_true, if_false, not_true_eq_false, not_false_eq_true]
      exact e88
    · obtain ⟨x, hx⟩ : ∃ x, e - (s + 1) - i = x + 1 := ⟨e - (s + 1) - i - 1, by omega⟩
      rw [hx]
      show _ = if t (a + i) :: wBy t (a + i + 1) d = wMs.getD (s + 1 + i) 0 :: wBy (fun i => wMs.getD i 0) (s + 1 + i + 1) x then _ else _
      have st := ih (i + 1) f (by omega) (by omega) (by omega)
      rw [show e - (s + 1) - (i + 1) = x by omega] at st
      rw [show a + (i + 1) = a + i + 1 by omega, show s + 1 + (i + 1) = s + 1 + i + 1 by omega] at st
      by_cases q : t (a + i) = wMs.getD (s + 1 + i) 0
      · have e1 : (t (a + i) :: wBy t (a + i + 1) d = wMs.getD (s + 1 + i) 0 :: wBy (fun i => wMs.getD i 0) (s + 1 + i + 1) x) ↔ (wBy t (a + i + 1) d = wBy (fun i => wMs.getD i 0) (s + 1 + i + 1) x) := by rw [q, List.cons_inj_right]
        rw [← q] at m
        simp -implicitDefEqProofs (disch := omega) only [e_X12_wordAt_20, e_X12_wordAt_20__1, e_X12_wordAt_20__2, e_X12_wordAt_20__3, m, t1, wx_bd, wx_let, wx_st, wx_lit, wx_ga, wx_sa, pk_mul, nI_add, wx_le, wx_lt, wx_eq, wx_en, wx_ne', wx_nn, wx_ltn, wx_len, wx_nlt, wx_nle, wx_bz0, wx_bz1, if_pos, if_neg, wx_ite, Nat.reduceEqDiff, eq_self, if_true, if_false, not_true_eq_false, not_false_eq_true]
        rw [st]
        by_cases z : wBy t (a + i + 1) d = wBy (fun i => wMs.getD i 0) (s + 1 + i + 1) x
        · rw [if_pos z, if_pos (e1.2 z)]
        · rw [if_neg z, if_neg (fun q => z (e1.1 q))]
      · rw [if_neg (fun z => q (by injection z))]
        generalize wMs.getD (s + 1 + i) 0 = y at *
        simp -implicitDefEqProofs (disch := omega) only [e_X12_wordAt_20, e_X12_wordAt_20__1, e_X12_wordAt_20__2, e_X12_wordAt_20__3, e_X12_wordAt_61, e_X12_wordAt_61__1, m, t1, wx_bd, wx_let, wx_st, wx_lit, wx_ga, wx_sa, pk_mul, nI_add, wx_le, wx_lt, wx_eq, wx_en, wx_ne', wx_nn, wx_ltn, wx_len, wx_nlt, wx_nle, wx_bz0, wx_bz1, if_pos, if_neg, wx_ite, Nat.reduceEqDiff, eq_self, if_true, if_false, not_true_eq_false, not_false_eq_true]
        exact e88
set_option maxHeartbeats 1000000 in
theorem wl_v5 (hn : n ≤ 400) (ht : ∀ i, i < n → τ 9 i = nI (t i) ∧ t i < 256) (hw : ∀ i, i < 129 → τ 10 i = nI (wMs.getD i 0)) {a b : Nat} (hab : a ≤ b) (hb : b ≤ n) (hl : ∀ i, a ≤ i → i < b → t i ≠ 32) : ∀ d r f x3, r + d = 26 → x3 + nI 1 = nI r → d < f → f_X12_wordAt_5 f 0 (nI a) (nI b) x3 (nI (wMt8.getD r 0)) τ = some (wmQ (wBy t a (b - a)) d r, τ) := by
  intro d
  induction d with
  | zero =>
    intro r f x3 hr hx hf
    obtain ⟨f, rfl⟩ : ∃ x, f = x + 1 := ⟨f - 1, by omega⟩
    obtain rfl : r = 26 := by omega
    have e : wMt8.getD 26 0 = 128 := rfl
    rw [e]
    simp -implicitDefEqProofs (disch := omega) only [e_X12_wordAt_5, e_X12_wordAt_5__1, wx_bd, wx_let, wx_st, wx_lit, wx_ga, wx_sa, pk_mul, nI_add, wx_le, wx_lt, wx_eq, wx_en, wx_ne', wx_nn, wx_ltn, wx_len, wx_nlt, wx_nle, wx_bz0, wx_bz1, if_pos, if_neg, wx_ite, Nat.reduceEqDiff, eq_self, if_true, if_false, not_true_eq_false, not_false_eq_true]
    rfl
  | succ d ih =>
    intro r f x3 hr hx hf
    obtain ⟨f, rfl⟩ : ∃ x, f = x + 1 := ⟨f - 1, by omega⟩
    obtain ⟨s1, s2, s3, s4⟩ := wTbl_m r (by omega)
    have v := wl_v20 hn ht hw hb hl (show r < 26 by omega) (f_X12_wordAt_5 f) (b - a) 0 wg_N (by omega) (by omega) (by rw [wx_N]; omega)
    rw [Nat.add_zero, Nat.add_zero, Nat.sub_zero, s4] at v
    have st := ih (r + 1) f (nI r) (by omega) (nI_add r 1) (by omega)
    have es : f_X12_wordAt_5 (f + 1) 0 (nI a) (nI b) x3 (nI (wMt8.getD r 0)) τ = f_X12_wordAt_20 (f_X12_wordAt_5 f) wg_N 0 (nI a) (nI b) (nI r) (nI (wMt8.getD r 0)) (nI 0) τ := by
      generalize wMt8.getD r 0 = s at *
      simp -implicitDefEqProofs (disch := omega) only [e_X12_wordAt_5, e_X12_wordAt_5__1, hx, wx_bd, wx_let, wx_st, wx_lit, wx_ga, wx_sa, pk_mul, nI_add, wx_le, wx_lt, wx_eq, wx_en, wx_ne', wx_nn, wx_ltn, wx_len, wx_nlt, wx_nle, wx_bz0, wx_bz1, if_pos, if_neg, wx_ite, Nat.reduceEqDiff, eq_self, if_true, if_false, not_true_eq_false, not_false_eq_true]
    rw [es, v, st]
    show _ = some (if wBy t a (b - a) = wWd.getD r [] then nI r else wmQ (wBy t a (b - a)) d (r + 1), τ)
    by_cases z : wBy t a (b - a) = wWd.getD r []
    · rw [if_pos z, if_pos z]
    · rw [if_neg z, if_neg z]
set_option maxHeartbeats 1000000 in
theorem wl_wordM (hn : n ≤ 400) (ht : ∀ i, i < n → τ 9 i = nI (t i) ∧ t i < 256) (hw : ∀ i, i < 129 → τ 10 i = nI (wMs.getD i 0)) {a b : Nat} (hab : a ≤ b) (hb : b ≤ n) (hl : ∀ i, a ≤ i → i < b → t i ≠ 32) : f_X12_wordAt 0 (nI a) (nI b) τ = some (wmQ (wBy t a (b - a)) 26 0, τ) := by
  have := wl_v5 hn ht hw hab hb hl 26 0 wg_N (-nI 1) (by omega) (by decide) (by rw [wx_N]; omega)
  rw [e_X12_wordAt]
  exact this
end WM
set_option maxHeartbeats 1000000 in
theorem wcQ_f (l : List Nat) : ∀ d r, r + d = 26 → (wcQ l d r = 0 ∧ ∀ s, r ≤ s → s < 26 → l ≠ wWd.getD (wcO s) []) ∨ ∃ s, r ≤ s ∧ s < 26 ∧ l = wWd.getD (wcO s) [] ∧ wcQ l d r = 256 + s
  | 0, r, h => Or.inl ⟨rfl, fun s h1 h2 => by omega⟩
  | d + 1, r, h => by
    by_cases c : l = wWd.getD (wcO r) []
    · exact Or.inr ⟨r, Nat.le_refl _, by omega, c, if_pos c⟩
    · have e : wcQ l (d + 1) r = wcQ l d (r + 1) := if_neg c
      rw [e]
      rcases wcQ_f l d (r + 1) (by omega) with ⟨q1, q2⟩ | ⟨s, q1, q2, q3, q4⟩
      · refine Or.inl ⟨q1, fun s h1 h2 => ?_⟩
        by_cases es : s = r
        · subst es; exact c
        · exact q2 s (by omega) h2
      · exact Or.inr ⟨s, by omega, q2, q3, q4⟩
set_option maxHeartbeats 1000000 in
theorem wmQ_f (l : List Nat) : ∀ d r, r + d = 26 → (wmQ l d r = -nI 1 ∧ ∀ s, r ≤ s → s < 26 → l ≠ wWd.getD s []) ∨ ∃ s, r ≤ s ∧ s < 26 ∧ l = wWd.getD s [] ∧ wmQ l d r = nI s
  | 0, r, h => Or.inl ⟨rfl, fun s h1 h2 => by omega⟩
  | d + 1, r, h => by
    by_cases c : l = wWd.getD r []
    · exact Or.inr ⟨r, Nat.le_refl _, by omega, c, if_pos c⟩
    · have e : wmQ l (d + 1) r = wmQ l d (r + 1) := if_neg c
      rw [e]
      rcases wmQ_f l d (r + 1) (by omega) with ⟨q1, q2⟩ | ⟨s, q1, q2, q3, q4⟩
      · refine Or.inl ⟨q1, fun s h1 h2 => ?_⟩
        by_cases es : s = r
        · subst es; exact c
        · exact q2 s (by omega) h2
      · exact Or.inr ⟨s, by omega, q2, q3, q4⟩
set_option maxHeartbeats 1000000 in
/-- both know the same word -/
theorem wQ_both (l : List Nat) : (wcQ l 26 0 = 0 ∧ wmQ l 26 0 = -nI 1) ∨ ∃ r, r < 26 ∧ wcQ l 26 0 = wKd 2 r ∧ wmQ l 26 0 = nI r := by
  rcases wcQ_f l 26 0 (by omega) with ⟨q1, q2⟩ | ⟨s, -, q2, q3, q4⟩
  · rcases wmQ_f l 26 0 (by omega) with ⟨p1, p2⟩ | ⟨s, -, p2, p3, p4⟩
    · exact Or.inl ⟨q1, p1⟩
    · obtain ⟨x, x1, x2⟩ := wTbl_i s p2
      exact absurd (by rw [x2]; exact p3) (q2 x (by omega) x1)
  · obtain ⟨o1, o2⟩ := wTbl_o s q2
    rcases wmQ_f l 26 0 (by omega) with ⟨p1, p2⟩ | ⟨x, -, p2, p3, p4⟩
    · exact absurd q3 (p2 _ (by omega) o1)
    · have := wTbl_u _ o1 _ p2 (q3.symm.trans p3)
      exact Or.inr ⟨x, p2, by rw [q4, ← this, o2], p4⟩

/-! KEYWORDS -/
def wCs : List Nat := [97, 103, 101, 32, 109, 105, 110, 100, 32, 99, 111, 108, 111, 117, 114, 32, 104, 97, 105, 114, 32, 105, 116, 99, 104, 32, 108, 101, 110, 116, 32, 99, 97, 117, 115, 101, 32, 119, 101, 105, 103, 104, 116, 32, 116, 114, 105, 101, 100, 32, 121, 101, 97, 114, 32, 99, 111, 117, 110, 116, 115, 32, 109, 111, 116, 104, 32, 100, 105, 101, 115, 32, 119, 104, 101, 110, 32, 111, 114, 32, 97, 110, 100, 32, 110, 111, 116, 32, 105, 110, 32, 99, 97, 115, 101, 32, 98, 101, 102, 111, 114, 101, 32, 119, 105, 103, 32, 111, 110, 32, 111, 102, 102, 32, 99, 111, 109, 98, 32, 98, 114, 117, 115, 104, 32, 111, 102, 32]
def wMs : List Nat := [32, 99, 111, 117, 110, 116, 115, 32, 109, 111, 116, 104, 32, 100, 105, 101, 115, 32, 119, 104, 101, 110, 32, 111, 114, 32, 97, 110, 100, 32, 110, 111, 116, 32, 97, 103, 101, 32, 109, 105, 110, 100, 32, 99, 111, 108, 111, 117, 114, 32, 104, 97, 105, 114, 32, 105, 116, 99, 104, 32, 108, 101, 110, 116, 32, 99, 97, 117, 115, 101, 32, 119, 101, 105, 103, 104, 116, 32, 116, 114, 105, 101, 100, 32, 121, 101, 97, 114, 32, 105, 110, 32, 99, 97, 115, 101, 32, 98, 101, 102, 111, 114, 101, 32, 119, 105, 103, 32, 111, 110, 32, 111, 102, 102, 32, 99, 111, 109, 98, 32, 98, 114, 117, 115, 104, 32, 111, 102, 32]
def wCt8 : List Nat := [0, 4, 9, 16, 21, 26, 31, 37, 44, 50, 55, 62, 67, 72, 77, 80, 84, 88, 91, 96, 103, 107, 110, 114, 119, 125, 128]
def wMt8 : List Nat := [0, 7, 12, 17, 22, 25, 29, 33, 37, 42, 49, 54, 59, 64, 70, 77, 83, 88, 91, 96, 103, 107, 110, 114, 119, 125, 128]
def wWd : List (List Nat) := [[99, 111, 117, 110, 116, 115], [109, 111, 116, 104], [100, 105, 101, 115], [119, 104, 101, 110], [111, 114], [97, 110, 100], [110, 111, 116], [97, 103, 101], [109, 105, 110, 100], [99, 111, 108, 111, 117, 114], [104, 97, 105, 114], [105, 116, 99, 104], [108, 101, 110, 116], [99, 97, 117, 115, 101], [119, 101, 105, 103, 104, 116], [116, 114, 105, 101, 100], [121, 101, 97, 114], [105, 110], [99, 97, 115, 101], [98, 101, 102, 111, 114, 101], [119, 105, 103], [111, 110], [111, 102, 102], [99, 111, 109, 98], [98, 114, 117, 115, 104], [111, 102]]
def wcO (r : Nat) : Nat := if r < 10 then r + 7 else if r < 17 then r - 10 else r
/-- d bytes from a on -/
def wBy (t : Nat → Nat) : Nat → Nat → List Nat
  | _, 0 => []
  | a, d + 1 => t a :: wBy t (a + 1) d
set_option maxHeartbeats 1000000 in
theorem wBy_len (t : Nat → Nat) : ∀ d a, (wBy t a d).length = d
  | 0, _ => rfl
  | d + 1, a => by
    show (wBy t (a + 1) d).length + 1 = d + 1
    rw [wBy_len t d]
set_option maxHeartbeats 1000000 in
theorem wl_ch {i : Nat} (hi : i < 128) (σ : wg_M) : f_J0_charAt_5068e (nI i) σ = some (nI (wCs.getD i 0), σ) := by
  have k : wg_wb.getD i 0 = nI (wCs.getD i 0) := by
    have : ∀ i, i < 128 → wg_wb.getD i 0 = nI (wCs.getD i 0) := by decide +kernel
    exact this i hi
  have k2 : narrow .char (.int (wg_wb.getD i 0)) = .int (wg_wb.getD i 0) := by
    have : ∀ i, i < 128 → narrow .char (.int (wg_wb.getD i 0)) = .int (wg_wb.getD i 0) := by decide +kernel
    exact this i hi
  have ti : (nI i).toInt = (i : Int) := nI_toInt (by omega)
  have tc : (nI i).toNatClampNeg = i := nI_clamp (by omega)
  have c3 : f_J3_checkIndex_8e157 (nI i) σ = some (nI i, σ) := by
    unfold f_J3_checkIndex_8e157
    simp -implicitDefEqProofs (disch := omega) only [wx_bd, wx_let, wx_st, wx_lit, wx_ga, wx_sa, pk_mul, nI_add, wx_le, wx_lt, wx_eq, wx_en, wx_ne', wx_nn, wx_ltn, wx_len, wx_nlt, wx_nle, wx_bz0, wx_bz1, if_pos, if_neg, wx_ite, Nat.reduceEqDiff, eq_self, if_true, if_false, not_true_eq_false, not_false_eq_true]
  have c1 : f_J1_charAt_3b067 (nI i) σ = some (wg_wb.getD i 0, σ) := by
    unfold f_J1_charAt_3b067 f_J0_checkIndex_df160
    rw [c3, wx_bd, wx_bd, ti, tc, if_pos (by omega)]
  unfold f_J0_charAt_5068e f_J0_isLatin1_aae02
  rw [wx_bd, if_neg (by decide), c1, wx_bd]
  unfold wg_ch
  rw [if_pos k2, k]
set_option maxHeartbeats 1000000 in
theorem wl_len (σ : wg_M) : f_J0_length_8abf5 σ = some (nI 128, σ) := by
  have e : (128 : Int32) >>> ((0 : Int32) &&& 31) = nI 128 := by decide
  unfold f_J0_length_8abf5 f_J0_coder_7d493
  rw [wx_bd, e]
set_option maxHeartbeats 1000000 in
theorem wTbl_c : ∀ r, r < 26 → wCt8.getD r 0 < wCt8.getD (r + 1) 0 ∧ wCt8.getD (r + 1) 0 ≤ 128 ∧ wCs.getD (wCt8.getD (r + 1) 0 - 1) 0 = 32 ∧ wBy (fun i => wCs.getD i 0) (wCt8.getD r 0) (wCt8.getD (r + 1) 0 - 1 - wCt8.getD r 0) = wWd.getD (wcO r) [] := by decide +kernel
set_option maxHeartbeats 1000000 in
theorem wTbl_n : ∀ r, r < 26 → ∀ k, k < 128 → wCt8.getD r 0 ≤ k → k + 1 < wCt8.getD (r + 1) 0 → wCs.getD k 0 ≠ 32 := by decide +kernel
set_option maxHeartbeats 1000000 in
theorem wTbl_m : ∀ r, r < 26 → wMt8.getD r 0 < wMt8.getD (r + 1) 0 ∧ wMt8.getD (r + 1) 0 ≤ 128 ∧ wMs.getD (wMt8.getD (r + 1) 0) 0 = 32 ∧ wBy (fun i => wMs.getD i 0) (wMt8.getD r 0 + 1) (wMt8.getD (r + 1) 0 - (wMt8.getD r 0 + 1)) = wWd.getD r [] := by decide +kernel
set_option maxHeartbeats 1000000 in
theorem wTbl_k : ∀ r, r < 26 → ∀ k, k < 129 → wMt8.getD r 0 < k → k < wMt8.getD (r + 1) 0 → wMs.getD k 0 ≠ 32 := by decide +kernel
set_option maxHeartbeats 1000000 in
theorem wTbl_u : ∀ r, r < 26 → ∀ s, s < 26 → wWd.getD r [] = wWd.getD s [] → r = s := by decide +kernel
set_option maxHeartbeats 1000000 in
theorem wTbl_o : ∀ r, r < 26 → wcO r < 26 ∧ wKd 2 (wcO r) = 256 + r := by decide +kernel
set_option maxHeartbeats 1000000 in
theorem wTbl_i : ∀ r, r < 26 → ∃ s, s < 26 ∧ wcO s = r := by decide +kernel
set_option maxHeartbeats 1000000 in
theorem wTbl_z : ∀ i, i < 129 → wz_m0 10 i = nI (wMs.getD i 0) := by decide +kernel
section SP
variable {t : Nat → Nat} {n : Nat} {σ τ : wg_M}
set_option maxHeartbeats 1000000 in
/-- the class: is it spelt so -/
theorem wl_sp (hn : n ≤ 400) (ht : ∀ i, i < n → σ 261 i = nI (t i) ∧ t i < 256) {a b s : Nat} (hab : a ≤ b) (hb : b ≤ n) (hs : s + (b - a) ≤ 128) : ∀ d i f, i + d = b → a ≤ i → d < f → f_X6_isSpelt_3 f 260 (nI a) (nI b) (nI s) (nI i) σ = some (if wBy t i d = wBy (fun i => wCs.getD i 0) (s + (i - a)) d then nI 1 else nI 0, σ) := by
  intro d
  induction d with
  | zero =>
    intro i f hi ha hf
    obtain ⟨f, rfl⟩ : ∃ x, f = x + 1 := ⟨f - 1, by omega⟩
    show _ = some (if ([] : List Nat) = [] then nI 1 else nI 0, σ)
    rw [if_pos rfl]
    simp -implicitDefEqProofs (disch := omega) only [e_X6_isSpelt_3, e_X6_isSpelt_3__1, e_X6_isSpelt_3__2, e_X6_isSpelt_3__3, wx_bd, wx_let, wx_st, wx_lit, wx_ga, wx_sa, pk_mul, nI_add, wx_le, wx_lt, wx_eq, wx_en, wx_ne', wx_nn, wx_ltn, wx_len, wx_nlt, wx_nle, wx_bz0, wx_bz1, if_pos, if_neg, wx_ite, Nat.reduceEqDiff, eq_self, if_true, if_false, not_true_eq_false, not_false_eq_true]
  | succ d ih =>
    intro i f hi ha hf
    obtain ⟨f, rfl⟩ : ∃ x, f = x + 1 := ⟨f - 1, by omega⟩
    have st := ih (i + 1) f (by omega) (by omega) (by omega)
    obtain ⟨t1, t2⟩ := ht i (by omega)
    have sb : nI (s + i) - nI a = nI (s + (i - a)) := by rw [wx_sub (by omega), show s + i - a = s + (i - a) by omega]
    have ch := wl_ch (i := s + (i - a)) (by omega) σ
    have cl : wCs.getD (s + (i - a)) 0 < 256 := by
      have : ∀ i, i < 128 → wCs.getD i 0 < 256 := by decide +kernel
      exact this _ (by omega)
    rw [show s + (i + 1 - a) = s + (i - a) + 1 by omega] at st
    show _ = some (if t i :: wBy t (i + 1) d = wCs.getD (s + (i - a)) 0 :: wBy (fun i => wCs.getD i 0) (s + (i - a) + 1) d then nI 1 else nI 0, σ)
    by_cases c : t i = wCs.getD (s + (i - a)) 0
    · rw [← c] at ch
      have e : (t i :: wBy t (i + 1) d = wCs.getD (s + (i - a)) 0 :: wBy (fun i => wCs.getD i 0) (s + (i - a) + 1) d) ↔ (wBy t (i + 1) d = wBy (fun i => wCs.getD i 0) (s + (i - a) + 1) d) := by rw [c, List.cons_inj_right]
      simp -implicitDefEqProofs (disch := omega) only [e_X6_isSpelt_3, e_X6_isSpelt_3__1, e_X6_isSpelt_3__2, e_X6_isSpelt_3__3, t1, sb, ch, wx_bd, wx_let, wx_st, wx_lit, wx_ga, wx_sa, pk_mul, nI_add, wx_le, wx_lt, wx_eq, wx_en, wx_ne', wx_nn, wx_ltn, wx_len, wx_nlt, wx_nle, wx_bz0, wx_bz1, if_pos, if_neg, wx_ite, Nat.reduceEqDiff, eq_self, if_true, if_false, not_true_eq_false, not_false_eq_true]
      rw [st]
      by_cases q : wBy t (i + 1) d = wBy (fun i => wCs.getD i 0) (s + (i - a) + 1) d
      · rw [if_pos q, if_pos (e.2 q)]
      · rw [if_neg q, if_neg (fun z => q (e.1 z))]
    · rw [if_neg (fun z => c (by injection z))]
      generalize wCs.getD (s + (i - a)) 0 = x at *
      simp -implicitDefEqProofs (disch := omega) only [e_X6_isSpelt_3, e_X6_isSpelt_3__1, e_X6_isSpelt_3__2, e_X6_isSpelt_3__3, t1, sb, ch, wx_bd, wx_let, wx_st, wx_lit, wx_ga, wx_sa, pk_mul, nI_add, wx_le, wx_lt, wx_eq, wx_en, wx_ne', wx_nn, wx_ltn, wx_len, wx_nlt, wx_nle, wx_bz0, wx_bz1, if_pos, if_neg, wx_ite, Nat.reduceEqDiff, eq_self, if_true, if_false, not_true_eq_false, not_false_eq_true]
set_option maxHeartbeats 1000000 in
theorem wl_spC (hn : n ≤ 400) (ht : ∀ i, i < n → σ 261 i = nI (t i) ∧ t i < 256) {a b s : Nat} (hab : a ≤ b) (hb : b ≤ n) (hs : s + (b - a) ≤ 128) : f_X6_isSpelt 260 (nI a) (nI b) (nI s) σ = some (if wBy t a (b - a) = wBy (fun i => wCs.getD i 0) s (b - a) then nI 1 else nI 0, σ) := by
  have := wl_sp hn ht hab hb hs (b - a) a wg_N (by omega) (Nat.le_refl _) (by rw [wx_N]; omega)
  rw [Nat.sub_self, Nat.add_zero] at this
  rw [e_X6_isSpelt]
  exact this
set_option maxHeartbeats 1000000 in
/-- the class: to the end of a word of the table -/
theorem wl_w1 {x1 x2 x3 x4 : Int32} : ∀ d i f, i + d ≤ 127 → (∀ k, i ≤ k → k < i + d → wCs.getD k 0 ≠ 32) → f_X6_wordAt_10 (f + d) 260 x1 x2 x3 x4 (nI i) σ = f_X6_wordAt_10 f 260 x1 x2 x3 x4 (nI (i + d)) σ := by
  intro d
  induction d with
  | zero => intro i f hi hk; rfl
  | succ d ih =>
    intro i f hi hk
    have ch := wl_ch (i := i) (by omega) σ
    have ne := hk i (Nat.le_refl _) (by omega)
    have cl : wCs.getD i 0 < 256 := by
      have : ∀ i, i < 128 → wCs.getD i 0 < 256 := by decide +kernel
      exact this _ (by omega)
    have st := ih (i + 1) f (by omega) (fun k h1 h2 => hk k (by omega) (by omega))
    rw [show i + 1 + d = i + (d + 1) by omega] at st
    rw [← st]
    show f_X6_wordAt_10 (f + d + 1) 260 x1 x2 x3 x4 (nI i) σ = _
    generalize wCs.getD i 0 = x at *
    simp -implicitDefEqProofs (disch := omega) only [e_X6_wordAt_10, e_X6_wordAt_10__1, e_X6_wordAt_10__2, e_X6_wordAt_10__3, e_X6_wordAt_65, e_X6_wordAt_65__1, wl_len, ch, wx_bd, wx_let, wx_st, wx_lit, wx_ga, wx_sa, pk_mul, nI_add, wx_le, wx_lt, wx_eq, wx_en, wx_ne', wx_nn, wx_ltn, wx_len, wx_nlt, wx_nle, wx_bz0, wx_bz1, if_pos, if_neg, wx_ite, Nat.reduceEqDiff, eq_self, if_true, if_false, not_true_eq_false, not_false_eq_true]
/-- the class's number of a word -/
def wcQ (l : List Nat) : Nat → Nat → Nat
  | 0, _ => 0
  | d + 1, r => if l = wWd.getD (wcO r) [] then 256 + r else wcQ l d (r + 1)
set_option maxHeartbeats 1000000 in
theorem wl_w2 (hn : n ≤ 400) (ht : ∀ i, i < n → σ 261 i = nI (t i) ∧ t i < 256) {a b : Nat} (hab : a ≤ b) (hb : b ≤ n) : ∀ d r f, r + d = 26 → 128 < f + wCt8.getD r 0 → f_X6_wordAt_10 f 260 (nI a) (nI b) (nI (256 + r)) (nI (wCt8.getD r 0)) (nI (wCt8.getD r 0)) σ = some (nI (wcQ (wBy t a (b - a)) d r), σ) := by
  intro d
  induction d with
  | zero =>
    intro r f hr hf
    obtain rfl : r = 26 := by omega
    have e : wCt8.getD 26 0 = 128 := rfl
    rw [e] at hf ⊢
    obtain ⟨f, rfl⟩ : ∃ x, f = x + 1 := ⟨f - 1, by omega⟩
    simp -implicitDefEqProofs (disch := omega) only [e_X6_wordAt_10, e_X6_wordAt_10__1, e_X6_wordAt_10__2, e_X6_wordAt_10__3, wl_len, wx_bd, wx_let, wx_st, wx_lit, wx_ga, wx_sa, pk_mul, nI_add, wx_le, wx_lt, wx_eq, wx_en, wx_ne', wx_nn, wx_ltn, wx_len, wx_nlt, wx_nle, wx_bz0, wx_bz1, if_pos, if_neg, wx_ite, Nat.reduceEqDiff, eq_self, if_true, if_false, not_true_eq_false, not_false_eq_true]
    rfl
  | succ d ih =>
    intro r f hr hf
    obtain ⟨s1, s2, s3, s4⟩ := wTbl_c r (by omega)
    have nn := wTbl_n r (by omega)
    generalize hs : wCt8.getD r 0 = s at *
    have st := ih (r + 1)
    generalize he : wCt8.getD (r + 1) 0 = e at *
    obtain ⟨f, rfl⟩ : ∃ x, f = x + 1 + (e - 1 - s) := ⟨f - 1 - (e - 1 - s), by omega⟩
    rw [wl_w1 (e - 1 - s) s (f + 1) (by omega) (fun k h1 h2 => nn k (by omega) h1 (by omega))]
    rw [show s + (e - 1 - s) = e - 1 by omega]
    have ch := wl_ch (i := e - 1) (by omega) σ
    rw [s3] at ch
    have st := st f (by omega) (by omega)
    have sb1 : nI (e - 1) - nI s = nI (e - 1 - s) := wx_sub (by omega)
    have sb2 : nI b - nI a = nI (b - a) := wx_sub (by omega)
    have ee : e - 1 + 1 = e := by omega
    show _ = some (nI (if wBy t a (b - a) = wWd.getD (wcO r) [] then 256 + r else wcQ (wBy t a (b - a)) d (r + 1)), σ)
    by_cases q : e - 1 - s = b - a
    · have sp := wl_spC hn ht hab hb (s := s) (by omega)
      rw [← s4, q]
      by_cases z : wBy t a (b - a) = wBy (fun i => wCs.getD i 0) s (b - a)
      · rw [if_pos z] at sp ⊢
        simp -implicitDefEqProofs (disch := omega) only [e_X6_wordAt_10, e_X6_wordAt_10__1, e_X6_wordAt_10__2, e_X6_wordAt_10__3, wl_len, ch, sb1, sb2, sp, wx_bd, wx_let, wx_st, wx_lit, wx_ga, wx_sa, pk_mul, nI_add, wx_le, wx_lt, wx_eq, wx_en, wx_ne', wx_nn, wx_ltn, wx_len, wx_nlt, wx_nle, wx_bz0, wx_bz1, if_pos, if_neg, wx_ite, Nat.reduceEqDiff, eq_self, if_true, if_false, not_true_eq_false, not_false_eq_true]
      · rw [if_neg z] at sp ⊢
        simp -implicitDefEqProofs (disch := omega) only [e_X6_wordAt_10, e_X6_wordAt_10__1, e_X6_wordAt_10__2, e_X6_wordAt_10__3, e_X6_wordAt_56, e_X6_wordAt_56__1, e_X6_wordAt_56__2, e_X6_wordAt_65, e_X6_wordAt_65__1, wl_len, ch, sb1, sb2, sp, ee, wx_bd, wx_let, wx_st, wx_lit, wx_ga, wx_sa, pk_mul, nI_add, wx_le, wx_lt, wx_eq, wx_en, wx_ne', wx_nn, wx_ltn, wx_len, wx_nlt, wx_nle, wx_bz0, wx_bz1, if_pos, if_neg, wx_ite, Nat.reduceEqDiff, eq_self, if_true, if_false, not_true_eq_false, not_false_eq_true]
        exact st
    · rw [if_neg (fun z => q (by
        have := congrArg List.length z
        rw [wBy_len, ← s4, wBy_len] at this
        omega))]
      simp -implicitDefEqProofs (disch := omega) only [e_X6_wordAt_10, e_X6_wordAt_10__1, e_X6_wordAt_10__2, e_X6_wordAt_10__3, e_X6_wordAt_56, e_X6_wordAt_56__1, e_X6_wordAt_56__2, e_X6_wordAt_65, e_X6_wordAt_65__1, wl_len, ch, sb1, sb2, ee, wx_bd, wx_let, wx_st, wx_lit, wx_ga, wx_sa, pk_mul, nI_add, wx_le, wx_lt, wx_eq, wx_en, wx_ne', wx_nn, wx_ltn, wx_len, wx_nlt, wx_nle, wx_bz0, wx_bz1, if_pos, if_neg, wx_ite, Nat.reduceEqDiff, eq_self, if_true, if_false, not_true_eq_false, not_false_eq_true]
      exact st
set_option maxHeartbeats 1000000 in
theorem wl_wordC (hn : n ≤ 400) (ht : ∀ i, i < n → σ 261 i = nI (t i) ∧ t i < 256) {a b : Nat} (hab : a ≤ b) (hb : b ≤ n) : f_X6_wordAt 260 (nI a) (nI b) σ = some (nI (wcQ (wBy t a (b - a)) 26 0), σ) := by
  have := wl_w2 hn ht hab hb 26 0 wg_N (by omega) (by rw [wx_N]; omega)
  rw [e_X6_wordAt]
  exact this
end SP

/-! THE BOOK; what a deed may change -/
def wTh (th : Bool) (σ τ : wg_M) : Prop := σ 279 6 = (if th = true then nI 1 else nI 0) ∧ τ 0 5 = (if th = true then nI 1 else nI 0)
def wX (th : Bool) (nw nj nc : Nat) (σ τ : wg_M) : Prop := wN nw nj nc τ ∧ wB nw nj nc σ 1 (τ 1) τ ∧ wPg σ 0 τ ∧ wRt nw nj nc σ 0 τ ∧ wTh th σ τ
def wFq (σ σ' τ τ' : wg_M) : Prop := (∀ a, a = 0 ∨ 25 < a → a ≠ 32 → a ≠ 33 → σ' a = σ a) ∧ ∀ a, a ≠ 1 → a ≠ 8 → a ≠ 22 → a ≠ 23 → τ' a = τ a
def wFr (σ σ' τ τ' : wg_M) : Prop := (∀ a, a = 0 ∨ 25 < a → a ≠ 32 → a ≠ 33 → σ' a = σ a) ∧ (∀ a, a ≠ 1 → a ≠ 8 → a ≠ 22 → a ≠ 23 → τ' a = τ a) ∧ τ' 1 0 = τ 1 0
set_option maxHeartbeats 1000000 in
theorem wFr_q {σ σ' τ τ' : wg_M} (h : wFr σ σ' τ τ') : wFq σ σ' τ τ' := ⟨h.1, h.2.1⟩
set_option maxHeartbeats 1000000 in
theorem wFq_tr {a b c x y z : wg_M} (h1 : wFq a b x y) (h2 : wFq b c y z) : wFq a c x z := ⟨fun q p1 p2 p3 => (h2.1 q p1 p2 p3).trans (h1.1 q p1 p2 p3), fun q p1 p2 p3 p4 => (h2.2 q p1 p2 p3 p4).trans (h1.2 q p1 p2 p3 p4)⟩
set_option maxHeartbeats 1000000 in
theorem wFr_rfl (σ τ : wg_M) : wFr σ σ τ τ := ⟨fun _ _ _ _ => rfl, fun _ _ _ _ _ => rfl, rfl⟩
set_option maxHeartbeats 1000000 in
theorem wFr_tr {a b c x y z : wg_M} (h1 : wFr a b x y) (h2 : wFr b c y z) : wFr a c x z := ⟨fun q p1 p2 p3 => (h2.1 q p1 p2 p3).trans (h1.1 q p1 p2 p3), fun q p1 p2 p3 p4 => (h2.2.1 q p1 p2 p3 p4).trans (h1.2.1 q p1 p2 p3 p4), h2.2.2.trans h1.2.2⟩
set_option maxHeartbeats 1000000 in
/-- the rest of a state over a changed bench -/
theorem wX_mk {th : Bool} {nw nj nc : Nat} {σ τ σ' τ' : wg_M} (h : wX th nw nj nc σ τ) (hf : wFq σ σ' τ τ') (hB : wB nw nj nc σ' 1 (τ' 1) τ') (hPg : wPg σ' 0 τ') : wX th nw nj nc σ' τ' := by
  obtain ⟨h1, h2, h3, h4, h5⟩ := h
  obtain ⟨f1, f2⟩ := hf
  have e0 := f2 0 (by omega) (by omega) (by omega) (by omega)
  refine ⟨wN_fr (by rw [e0]) (by rw [e0]) (by rw [e0]) h1, hB, hPg, ?_, ?_⟩
  · exact wRt_fr (fun a q1 q2 q3 q4 => f1 a (by omega) (by omega) (by omega)) (fun a i q q1 q8 _ _ _ _ _ => by
      rw [f2 a q1 q8 (fun e => by subst e; simp [wLv] at q) (fun e => by subst e; simp [wLv] at q)]) h4
  · exact ⟨by rw [f1 279 (by omega) (by omega) (by omega)]; exact h5.1, by rw [e0]; exact h5.2⟩
set_option maxHeartbeats 1000000 in
theorem wX_s {th : Bool} {nw nj nc : Nat} {σ τ σ' τ' : wg_M} (h : wX th nw nj nc σ τ) (h1 : wSc σ σ') (h2 : wSm τ τ') : wX th nw nj nc σ' τ' ∧ wFr σ σ' τ τ' := by
  have hf : wFr σ σ' τ τ' := ⟨fun a _ q1 q2 => h1 a q1 q2, fun a _ _ q1 q2 => h2 a q1 q2, by rw [h2 1 (by omega) (by omega)]⟩
  exact ⟨wX_mk h (wFr_q hf) (wB_s ⟨h.1.1, h.1.2.1, h.1.2.2.1⟩ h1 h2 h.2.1) (wPg_fr (fun a q1 q2 => h1 a (by omega) (by omega)) (fun i _ => by rw [h2 8 (by omega) (by omega)]) h.2.2.1), hf⟩
set_option maxHeartbeats 1000000 in
theorem wX_g {th : Bool} {nw nj nc : Nat} {σ τ σ' τ' : wg_M} (h : wX th nw nj nc σ τ) (h1 : wGc σ σ') (h2 : wGm τ τ') (hB : wB nw nj nc σ' 1 (τ' 1) τ') : wX th nw nj nc σ' τ' ∧ wFr σ σ' τ τ' := by
  have hf : wFr σ σ' τ τ' := ⟨fun a _ _ _ => h1 a (by omega), fun a q _ _ _ => h2.1 a q, h2.2 0 (by omega)⟩
  exact ⟨wX_mk h (wFr_q hf) hB (wPg_fr (fun a q1 q2 => h1 a (by omega)) (fun i _ => by rw [h2.1 8 (by omega)]) h.2.2.1), hf⟩
def wnC (th : Bool) (l : Nat) (y a b c : Int32) (s : wg_M) : wg_M := if th = true then s else if l < 150 then wg_u (wg_u (wg_u (wg_u (wg_u (wg_u (wg_u s 21 4 (nI l)) 22 l y) 23 l a) 24 l b) 25 l c) 21 4 (nI (l + 1))) 1 9 (nI (l + 1)) else wg_u (wg_u s 21 4 (nI l)) 1 9 (nI l)
def wnM (th : Bool) (l : Nat) (y a b c : Int32) (t : wg_M) : wg_M := if th = true then t else if l < 150 then wg_u (wg_u (wg_u (wg_u (wg_u t 8 (4 * l) y) 8 (4 * l + 1) a) 8 (4 * l + 2) b) 8 (4 * l + 3) c) 1 2 (nI (l + 1)) else t
set_option maxHeartbeats 1000000 in
theorem wl_noteC {th : Bool} {σ τ : wg_M} {l : Nat} {a b c : Int32} (ht : wTh th σ τ) (hl : σ 1 9 = nI l) (hl2 : l ≤ 150) : f_X1_note 279 a b c σ = some (nI 0, wnC th l (σ 1 7) a b c σ) := by
  unfold wnC
  cases th
  · have h0 : σ 279 6 = nI 0 := ht.1
    by_cases q : l < 150
    · simp -implicitDefEqProofs (disch := omega) only [e_X1_note, e_X1_note__1, e_X1_note__2, e_X1_note__3, e_X4_add_21, e_X4_add_21__1, e_X4_add_21__2, e_X4_add_21__3, e_X4_add_21__4, e_X4_add_21__5, wx_ofN, h0, hl, wx_uk, wx_un, pk_us, pk_un, Bool.false_eq_true, wx_bd, wx_let, wx_st, wx_lit, wx_ga, wx_sa, pk_mul, nI_add, wx_le, wx_lt, wx_eq, wx_en, wx_ne', wx_nn, wx_ltn, wx_len, wx_nlt, wx_nle, wx_bz0, wx_bz1, if_pos, if_neg, wx_ite, Nat.reduceEqDiff, eq_self, if_true, if_false, not_true_eq_false, not_false_eq_true]
    · simp -implicitDefEqProofs (disch := omega) only [e_X1_note, e_X1_note__1, e_X1_note__2, e_X1_note__3, e_X4_add_21, e_X4_add_21__1, e_X4_add_21__2, e_X4_add_21__3, e_X4_add_21__4, e_X4_add_21__5, wx_ofN, h0, hl, wx_uk, wx_un, pk_us, pk_un, Bool.false_eq_true, wx_bd, wx_let, wx_st, wx_lit, wx_ga, wx_sa, pk_mul, nI_add, wx_le, wx_lt, wx_eq, wx_en, wx_ne', wx_nn, wx_ltn, wx_len, wx_nlt, wx_nle, wx_bz0, wx_bz1, if_pos, if_neg, wx_ite, Nat.reduceEqDiff, eq_self, if_true, if_false, not_true_eq_false, not_false_eq_true]
  · have h0 : σ 279 6 = nI 1 := ht.1
    simp -implicitDefEqProofs (disch := omega) only [e_X1_note, e_X1_note__1, e_X1_note__2, e_X1_note__3, h0, wx_bd, wx_let, wx_st, wx_lit, wx_ga, wx_sa, pk_mul, nI_add, wx_le, wx_lt, wx_eq, wx_en, wx_ne', wx_nn, wx_ltn, wx_len, wx_nlt, wx_nle, wx_bz0, wx_bz1, if_pos, if_neg, wx_ite, Nat.reduceEqDiff, eq_self, if_true, if_false, not_true_eq_false, not_false_eq_true]
set_option maxHeartbeats 1000000 in
theorem wl_noteM {th : Bool} {σ τ : wg_M} {l : Nat} {a b c : Int32} (ht : wTh th σ τ) (hl : τ 1 2 = nI l) (hl2 : l ≤ 150) : f_X12_notes 0 a b c τ = some (nI 0, wnM th l (τ 1 0) a b c τ) := by
  unfold wnM
  cases th
  · have h0 : τ 0 5 = nI 0 := ht.2
    by_cases q : l < 150
    · simp -implicitDefEqProofs (disch := omega) only [e_X12_notes, e_X12_notes__1, e_X12_notes__2, e_X12_notes__3, e_X12_notes__4, e_X12_notes__5, e_X12_notes__6, e_X12_notes__7, e_X12_notes__8, e_X12_notes__9, e_X12_notes__10, h0, hl, wx_uk, wx_un, pk_us, pk_un, Bool.false_eq_true, wx_bd, wx_let, wx_st, wx_lit, wx_ga, wx_sa, pk_mul, nI_add, wx_le, wx_lt, wx_eq, wx_en, wx_ne', wx_nn, wx_ltn, wx_len, wx_nlt, wx_nle, wx_bz0, wx_bz1, if_pos, if_neg, wx_ite, Nat.reduceEqDiff, eq_self, if_true, if_false, not_true_eq_false, not_false_eq_true]
    · simp -implicitDefEqProofs (disch := omega) only [e_X12_notes, e_X12_notes__1, e_X12_notes__2, e_X12_notes__3, e_X12_notes__4, e_X12_notes__5, e_X12_notes__6, e_X12_notes__7, e_X12_notes__8, e_X12_notes__9, e_X12_notes__10, h0, hl, wx_uk, wx_un, pk_us, pk_un, Bool.false_eq_true, wx_bd, wx_let, wx_st, wx_lit, wx_ga, wx_sa, pk_mul, nI_add, wx_le, wx_lt, wx_eq, wx_en, wx_ne', wx_nn, wx_ltn, wx_len, wx_nlt, wx_nle, wx_bz0, wx_bz1, if_pos, if_neg, wx_ite, Nat.reduceEqDiff, eq_self, if_true, if_false, not_true_eq_false, not_false_eq_true]
  · have h0 : τ 0 5 = nI 1 := ht.2
    simp -implicitDefEqProofs (disch := omega) only [e_X12_notes, e_X12_notes__1, e_X12_notes__2, e_X12_notes__3, e_X12_notes__4, e_X12_notes__5, e_X12_notes__6, e_X12_notes__7, e_X12_notes__8, e_X12_notes__9, e_X12_notes__10, h0, wx_bd, wx_let, wx_st, wx_lit, wx_ga, wx_sa, pk_mul, nI_add, wx_le, wx_lt, wx_eq, wx_en, wx_ne', wx_nn, wx_ltn, wx_len, wx_nlt, wx_nle, wx_bz0, wx_bz1, if_pos, if_neg, wx_ite, Nat.reduceEqDiff, eq_self, if_true, if_false, not_true_eq_false, not_false_eq_true]
set_option maxHeartbeats 1000000 in
theorem wnC_un {th : Bool} {l : Nat} {y a b c : Int32} {s : wg_M} {q : Nat} (h : q ≠ 1 ∧ (q < 21 ∨ 25 < q)) : wnC th l y a b c s q = s q := by
  unfold wnC
  split
  · rfl
  · split <;> simp -implicitDefEqProofs (disch := omega) only [wx_uk, wx_un, pk_us, pk_un]
set_option maxHeartbeats 1000000 in
theorem wnM_un {th : Bool} {l : Nat} {y a b c : Int32} {t : wg_M} {q : Nat} (h1 : q ≠ 1) (h8 : q ≠ 8) : wnM th l y a b c t q = t q := by
  unfold wnM
  split
  · rfl
  · split
    · simp -implicitDefEqProofs (disch := omega) only [wx_uk, wx_un, pk_us, pk_un]
    · rfl
set_option maxHeartbeats 1000000 in
theorem wnM_1 {th : Bool} {l : Nat} {y a b c : Int32} {t : wg_M} {x : Nat} (h : x ≠ 2) : wnM th l y a b c t 1 x = t 1 x := by
  unfold wnM
  split
  · rfl
  · split
    · simp -implicitDefEqProofs (disch := omega) only [wx_uk, wx_un, pk_us, pk_un]
    · rfl
set_option maxHeartbeats 1000000 in
theorem wnC_1 {th : Bool} {l : Nat} {y a b c : Int32} {t : wg_M} {x : Nat} (h : x ≠ 9) : wnC th l y a b c t 1 x = t 1 x := by
  unfold wnC
  split
  · rfl
  · split <;> simp -implicitDefEqProofs (disch := omega) only [wx_uk, wx_un, pk_us, pk_un]
set_option maxHeartbeats 1000000 in
theorem wx_c5 {s : wg_M} {w l j : Nat} {V u : Int32} (h : l ≠ 5) : wg_u (wg_u s 5 w V) l j u = wg_u (wg_u s l j u) 5 w V := by
  funext q
  by_cases c5 : q = 5
  · subst c5
    rw [wx_un (Ne.symm h), wx_uk, wx_uk, wx_un (Ne.symm h)]
  · rw [wx_un (k := 5) c5]
    by_cases cl : q = l
    · subst cl
      rw [wx_uk, wx_uk, wx_un h]
    · rw [wx_un cl, wx_un cl, wx_un c5]
set_option maxHeartbeats 1000000 in
theorem wnC_5 {th : Bool} {l w : Nat} {y a b c V : Int32} {s : wg_M} : wnC th l y a b c (wg_u s 5 w V) = wg_u (wnC th l y a b c s) 5 w V := by
  unfold wnC
  split
  · rfl
  · split <;> simp -implicitDefEqProofs (disch := omega) only [wx_c5]
set_option maxHeartbeats 1000000 in
theorem wl_noteB {th : Bool} {nw nj nc : Nat} {σ τ : wg_M} {l : Nat} {a b c : Int32} (h : wX th nw nj nc σ τ) (hl : τ 1 2 = nI l) (hl2 : l ≤ 150) : wX th nw nj nc (wnC th l (σ 1 7) a b c σ) (wnM th l (τ 1 0) a b c τ) ∧ wFr σ (wnC th l (σ 1 7) a b c σ) τ (wnM th l (τ 1 0) a b c τ) := by
  have hf : wFr σ (wnC th l (σ 1 7) a b c σ) τ (wnM th l (τ 1 0) a b c τ) := ⟨fun q p1 _ _ => wnC_un (by omega), fun q p1 p2 _ _ => wnM_un p1 p2, wnM_1 (by omega)⟩
  obtain ⟨h1, h2, h3, h4, h5⟩ := id h
  refine ⟨wX_mk h (wFr_q hf) ?_ ?_, hf⟩
  · refine wB_sc ⟨h1.1, h1.2.1, h1.2.2.1⟩ h2 (fun q p1 p2 => wnC_un (by omega)) (wnC_1 (by omega)) ?_ ?_ ?_ ?_ (fun i p1 _ => wnM_1 (by omega)) (fun i _ => by rw [wnM_un (by omega) (by omega)]) (fun i _ => by rw [wnM_un (by omega) (by omega)]) (fun i _ => by rw [wnM_un (by omega) (by omega)]) (fun i _ => by rw [wnM_un (by omega) (by omega)])
    · rw [wnC_1 (by omega), wnM_1 (by omega)]; exact wb_year h2
    · rw [wnC_1 (by omega), wnM_1 (by omega)]; exact wb_draws h2
    · have e := wb_lines h2
      unfold wnC wnM
      split
      · exact e
      · split
        · simp -implicitDefEqProofs (disch := omega) only [wx_uk, wx_un, pk_us, pk_un]
        · simp -implicitDefEqProofs (disch := omega) only [wx_uk, wx_un, pk_us, pk_un]; exact hl.symm
    · unfold wnM
      split
      · exact ⟨l, hl2, hl⟩
      · split
        · exact ⟨l + 1, by omega, by simp -implicitDefEqProofs (disch := omega) only [wx_uk, wx_un, pk_us, pk_un]⟩
        · exact ⟨l, hl2, hl⟩
  · intro i hi
    have := h3 i hi
    unfold wnC wnM
    split
    · exact this
    · split
      · by_cases c : i = l
        · subst c
          simp -implicitDefEqProofs (disch := omega) only [Nat.zero_add, wx_uk, wx_un, pk_us, pk_un]
          exact ⟨wb_year h2, trivial, trivial, trivial⟩
        · simp -implicitDefEqProofs (disch := omega) only [Nat.zero_add, wx_uk, wx_un, pk_us, pk_un] at this ⊢
          exact this
      · simp -implicitDefEqProofs (disch := omega) only [Nat.zero_add, wx_uk, wx_un, pk_us, pk_un] at this ⊢
        exact this
set_option maxHeartbeats 1000000 in
theorem wl_note {th : Bool} {nw nj nc : Nat} {σ τ : wg_M} (h : wX th nw nj nc σ τ) (a b c : Int32) : ∃ σ' τ', f_X1_note 279 a b c σ = some (nI 0, σ') ∧ f_X12_notes 0 a b c τ = some (nI 0, τ') ∧ wX th nw nj nc σ' τ' ∧ wFr σ σ' τ τ' ∧ (∀ x, x ≠ 2 → τ' 1 x = τ 1 x) := by
  obtain ⟨l, l1, l2⟩ := h.2.1.1.2.2.2.2.2.2
  have e9 := wb_lines h.2.1
  rw [l2] at e9
  obtain ⟨q1, q2⟩ := wl_noteB (a := a) (b := b) (c := c) h l2 l1
  exact ⟨_, _, wl_noteC h.2.2.2.2 e9 l1, wl_noteM h.2.2.2.2 l2 l1, q1, q2, fun x hx => wnM_1 hx⟩
/-! a WIG is combed -/
set_option maxHeartbeats 1000000 in
theorem wl_combC_l {w k : Nat} {x : Int32} {σ0 : wg_M} (hw : w < 8) (hk : σ0 7 w = nI k) (hk8 : k ≤ 8) {p : Nat → Bool} (hp : ∀ i, i < k → p i = decide (¬ σ0 8 (w * 8 + i) = x)) : ∀ d i n σ, i + d = k → d < n → (∀ a, a ≠ 8 → a ≠ 9 → a ≠ 10 → σ a = σ0 a) → (∀ a y, a = 8 ∨ a = 9 ∨ a = 10 → (y < w * 8 ∨ w * 8 + i ≤ y) → σ a y = σ0 a y) → (∀ a j, a = 8 ∨ a = 9 ∨ a = 10 → j < i → p j = true → σ a (w * 8 + fb_ct p j) = σ0 a (w * 8 + j)) → ∃ σ', (∀ a, a ≠ 7 → a ≠ 8 → a ≠ 9 → a ≠ 10 → σ' a = σ0 a) ∧ (∀ v, v ≠ w → σ' 7 v = σ0 7 v) ∧ σ' 7 w = nI (fb_ct p k) ∧ (∀ a y, a = 8 ∨ a = 9 ∨ a = 10 → (y < w * 8 ∨ w * 8 + 8 ≤ y) → σ' a y = σ0 a y) ∧ (∀ a j, a = 8 ∨ a = 9 ∨ a = 10 → j < k → p j = true → σ' a (w * 8 + fb_ct p j) = σ0 a (w * 8 + j)) ∧ ∀ s, f_X9_itchAnew 2 (nI w) σ' = some (nI 0, s) → f_X9_dropCause_11 n 2 (nI w) x (nI (w * 8)) (nI (fb_ct p i)) (nI i) σ = some (nI (k - fb_ct p k), s) := by
  intro d
  induction d with
  | zero =>
    intro i n σ hi hn s1 s2 s3
    obtain ⟨n, rfl⟩ : ∃ k, n = k + 1 := ⟨n - 1, by omega⟩
    obtain rfl : i = k := by omega
    have hc := fb_ct_le p i
    have e7 : σ 7 = σ0 7 := s1 7 (by omega) (by omega) (by omega)
    refine ⟨wg_u σ 7 w (nI (fb_ct p i)), fun a h1 h2 h3 h4 => by rw [wx_un h1]; exact s1 a h2 h3 h4, fun v hv => by simp -implicitDefEqProofs (disch := omega) only [wx_uk, wx_un, pk_us, pk_un, e7], by simp -implicitDefEqProofs (disch := omega) only [wx_uk, wx_un, pk_us, pk_un], fun a y ha hy => by rw [wx_un (by omega)]; exact s2 a y ha (by omega), fun a j ha hj hpj => by rw [wx_un (by omega)]; exact s3 a j ha hj hpj, fun s hs => ?_⟩
    have ek : nI i - nI (fb_ct p i) = nI (i - fb_ct p i) := pk_sub hc
    simp -implicitDefEqProofs (disch := omega) only [e_X9_dropCause_11, e_X9_dropCause_11__1, e_X9_dropCause_11__2, e_X9_dropCause_11__3, e_X9_dropCause_11__4, e_X9_dropCause_11__5, e_X9_dropCause_11__6, e_X9_dropCause_11__7, e_X9_dropCause_11__8, e7, hk, ek, hs, wx_bd, wx_let, wx_st, wx_lit, wx_ga, wx_sa, pk_mul, nI_add, wx_le, wx_lt, wx_eq, wx_en, wx_ne', wx_nn, wx_ltn, wx_len, wx_nlt, wx_nle, wx_bz0, wx_bz1, if_pos, if_neg, wx_ite, Nat.reduceEqDiff, eq_self, if_true, if_false, not_true_eq_false, not_false_eq_true]
  | succ d ih =>
    intro i n σ hi hn s1 s2 s3
    obtain ⟨n, rfl⟩ : ∃ k, n = k + 1 := ⟨n - 1, by omega⟩
    have hc := fb_ct_le p i
    have e7 : σ 7 = σ0 7 := s1 7 (by omega) (by omega) (by omega)
    have e8 : σ 8 (w * 8 + i) = σ0 8 (w * 8 + i) := s2 8 _ (by omega) (by omega)
    have hpi := hp i (by omega)
    by_cases cx : σ0 8 (w * 8 + i) = x
    · have pf : p i = false := by rw [hpi]; simp [cx]
      have ec : fb_ct p (i + 1) = fb_ct p i := by rw [fb_ct_succ, pf]; rfl
      obtain ⟨σ', r1, r2, r3, r4, r5, r6⟩ := ih (i + 1) n σ (by omega) (by omega) s1 (fun a y ha hy => s2 a y ha (by omega)) (fun a j ha hj hpj => by
        rcases Nat.lt_or_ge j i with q | q
        · exact s3 a j ha q hpj
        · rw [show j = i by omega, pf] at hpj; cases hpj)
      refine ⟨σ', r1, r2, r3, r4, r5, fun s hs => ?_⟩
      have := r6 s hs
      rw [ec] at this
      simp -implicitDefEqProofs (disch := omega) only [e_X9_dropCause_11, e_X9_dropCause_11__1, e_X9_dropCause_11__2, e_X9_dropCause_11__3, e_X9_dropCause_11__4, e_X9_dropCause_11__5, e_X9_dropCause_11__6, e_X9_dropCause_11__7, e_X9_dropCause_11__8, e_X9_dropCause_50, e_X9_dropCause_50__1, e7, hk, e8, cx, wx_bd, wx_let, wx_st, wx_lit, wx_ga, wx_sa, pk_mul, nI_add, wx_le, wx_lt, wx_eq, wx_en, wx_ne', wx_nn, wx_ltn, wx_len, wx_nlt, wx_nle, wx_bz0, wx_bz1, if_pos, if_neg, wx_ite, Nat.reduceEqDiff, eq_self, if_true, if_false, not_true_eq_false, not_false_eq_true]
      exact this
    · have pt : p i = true := by rw [hpi]; simp [cx]
      have ec : fb_ct p (i + 1) = fb_ct p i + 1 := by rw [fb_ct_succ, pt]; rfl
      obtain ⟨σ', r1, r2, r3, r4, r5, r6⟩ := ih (i + 1) n (wg_u (wg_u (wg_u σ 8 (w * 8 + fb_ct p i) (σ 8 (w * 8 + i))) 9 (w * 8 + fb_ct p i) (σ 9 (w * 8 + i))) 10 (w * 8 + fb_ct p i) (σ 10 (w * 8 + i))) (by omega) (by omega) (fun a h1 h2 h3 => by simp -implicitDefEqProofs (disch := omega) only [wx_uk, wx_un, pk_us, pk_un]; exact s1 a h1 h2 h3) (fun a y ha hy => by
          rcases ha with rfl | rfl | rfl
          · simp -implicitDefEqProofs (disch := omega) only [wx_uk, wx_un, pk_us, pk_un]; exact s2 8 y (by omega) (by omega)
          · simp -implicitDefEqProofs (disch := omega) only [wx_uk, wx_un, pk_us, pk_un]; exact s2 9 y (by omega) (by omega)
          · simp -implicitDefEqProofs (disch := omega) only [wx_uk, wx_un, pk_us, pk_un]; exact s2 10 y (by omega) (by omega)) (fun a j ha hj hpj => by
          rcases Nat.lt_or_ge j i with q | q
          · have hlt : fb_ct p j < fb_ct p i := by
              have h1 := fb_ct_mono p (show j + 1 ≤ i by omega)
              rw [fb_ct_succ, hpj] at h1
              simp at h1
              omega
            rcases ha with rfl | rfl | rfl
            · simp -implicitDefEqProofs (disch := omega) only [wx_uk, wx_un, pk_us, pk_un]; exact s3 8 j (by omega) q hpj
            · simp -implicitDefEqProofs (disch := omega) only [wx_uk, wx_un, pk_us, pk_un]; exact s3 9 j (by omega) q hpj
            · simp -implicitDefEqProofs (disch := omega) only [wx_uk, wx_un, pk_us, pk_un]; exact s3 10 j (by omega) q hpj
          · obtain rfl : j = i := by omega
            rcases ha with rfl | rfl | rfl
            · simp -implicitDefEqProofs (disch := omega) only [wx_uk, wx_un, pk_us, pk_un]; exact s2 8 _ (by omega) (by omega)
            · simp -implicitDefEqProofs (disch := omega) only [wx_uk, wx_un, pk_us, pk_un]; exact s2 9 _ (by omega) (by omega)
            · simp -implicitDefEqProofs (disch := omega) only [wx_uk, wx_un, pk_us, pk_un]; exact s2 10 _ (by omega) (by omega))
      refine ⟨σ', r1, r2, r3, r4, r5, fun s hs => ?_⟩
      have := r6 s hs
      rw [ec] at this
      rw [e8] at this
      simp -implicitDefEqProofs (disch := omega) only [e_X9_dropCause_11, e_X9_dropCause_11__1, e_X9_dropCause_11__2, e_X9_dropCause_11__3, e_X9_dropCause_11__4, e_X9_dropCause_11__5, e_X9_dropCause_11__6, e_X9_dropCause_11__7, e_X9_dropCause_11__8, e_X9_dropCause_50, e_X9_dropCause_50__1, wl_move, e7, hk, e8, cx, wx_bd, wx_let, wx_st, wx_lit, wx_ga, wx_sa, pk_mul, nI_add, wx_le, wx_lt, wx_eq, wx_en, wx_ne', wx_nn, wx_ltn, wx_len, wx_nlt, wx_nle, wx_bz0, wx_bz1, if_pos, if_neg, wx_ite, Nat.reduceEqDiff, eq_self, if_true, if_false, not_true_eq_false, not_false_eq_true]
      exact this
set_option maxHeartbeats 1000000 in
theorem wl_combM_l {w k : Nat} {x : Int32} {τ0 : wg_M} (hw : w < 8) (hk8 : k ≤ 8) {p : Nat → Bool} (hp : ∀ i, i < k → p i = decide (¬ τ0 1 (75 + 24 * w + 3 * i) = x)) : ∀ d n τ, d ≤ k → d < n → (∀ a, a ≠ 1 → τ a = τ0 a) → τ 1 (67 + w) = nI (d + (fb_ct p k - fb_ct p d)) → (∀ y, y ≠ 67 + w → (y < 75 + 24 * w ∨ 75 + 24 * w + 24 ≤ y) → τ 1 y = τ0 1 y) → (∀ j a, a < 3 → j < d → τ 1 (75 + 24 * w + 3 * j + a) = τ0 1 (75 + 24 * w + 3 * j + a)) → (∀ i a, a < 3 → d ≤ i → i < k → p i = true → τ 1 (75 + 24 * w + 3 * (d + (fb_ct p i - fb_ct p d)) + a) = τ0 1 (75 + 24 * w + 3 * i + a)) → ∃ τ', (∀ a, a ≠ 1 → τ' a = τ0 a) ∧ τ' 1 (67 + w) = nI (fb_ct p k) ∧ (∀ y, y ≠ 67 + w → (y < 75 + 24 * w ∨ 75 + 24 * w + 24 ≤ y) → τ' 1 y = τ0 1 y) ∧ (∀ i a, a < 3 → i < k → p i = true → τ' 1 (75 + 24 * w + 3 * fb_ct p i + a) = τ0 1 (75 + 24 * w + 3 * i + a)) ∧ ∀ s, f_X12_itches 0 (nI w) τ' = some (nI 0, s) → f_X12_combsOut_24 n 0 (nI w) x (nI d - nI 1) τ = some (nI 0, s) := by
  intro d
  induction d with
  | zero =>
    intro n τ hd hn m1 m2 m3 m4 m5
    obtain ⟨n, rfl⟩ : ∃ k, n = k + 1 := ⟨n - 1, by omega⟩
    have z : fb_ct p 0 = 0 := rfl
    simp only [z, Nat.zero_add, Nat.sub_zero] at m2 m5
    refine ⟨τ, m1, m2, m3, fun i a ha hi hpi => m5 i a ha (by omega) hi hpi, fun s hs => ?_⟩
    have en : -nI 1 < nI 0 := by decide
    simp -implicitDefEqProofs (disch := omega) only [e_X12_combsOut_24, e_X12_combsOut_24__1, e_X12_combsOut_24__2, e_X12_combsOut_24__3, e_X12_combsOut_24__4, wx_m1, en, hs, wx_bd, wx_let, wx_st, wx_lit, wx_ga, wx_sa, pk_mul, nI_add, wx_le, wx_lt, wx_eq, wx_en, wx_ne', wx_nn, wx_ltn, wx_len, wx_nlt, wx_nle, wx_bz0, wx_bz1, if_pos, if_neg, wx_ite, Nat.reduceEqDiff, eq_self, if_true, if_false, not_true_eq_false, not_false_eq_true]
  | succ d ih =>
    intro n τ hd hn m1 m2 m3 m4 m5
    obtain ⟨n, rfl⟩ : ∃ k, n = k + 1 := ⟨n - 1, by omega⟩
    have hcd := fb_ct_le p d
    have hck := fb_ct_le p k
    have hmo := fb_ct_mono p hd
    have hpd := hp d (by omega)
    have e1 : nI (d + 1) - nI 1 = nI d := nI_pred d
    have e2 : nI d + -nI 1 = nI d - nI 1 := (Int32.sub_eq_add_neg _ _).symm
    have ed := m4 d 0 (by omega) (by omega)
    simp only [Nat.add_zero] at ed
    by_cases cx : τ0 1 (75 + 24 * w + 3 * d) = x
    · have pf : p d = false := by rw [hpd]; simp [cx]
      have ec : fb_ct p (d + 1) = fb_ct p d := by rw [fb_ct_succ, pf]; rfl
      rw [ec] at m2 m5 hmo
      obtain ⟨τ1, g1, g2, g3, g4, g5, g6⟩ := wl_goes (w := w) (k := d + 1 + (fb_ct p k - fb_ct p d)) (i := d) (τ := τ) hw (by omega) (by
        have h9 : fb_ct p k - fb_ct p d ≤ k - (d + 1) := by
          have hs := fb_ct_split p (d + 1) (k - (d + 1))
          rw [show d + 1 + (k - (d + 1)) = k by omega, ec] at hs
          have := fb_ct_le (fun j => p (d + 1 + j)) (k - (d + 1))
          omega
        omega) m2
      obtain ⟨τ', r1, r2, r3, r4, r5⟩ := ih n τ1 (by omega) (by omega) (fun a ha => (g2 a ha).trans (m1 a ha)) (by rw [g3]; congr 1; omega) (fun y y1 y2 => (g4 y y1 y2).trans (m3 y y1 y2)) (fun j a ha hj => (g5 j a ha hj).trans (m4 j a ha (by omega))) (fun i a ha hi hik hpi => by
        have hne : i ≠ d := fun e => by rw [e, pf] at hpi; cases hpi
        have hlt := fb_ct_mono p (show d + 1 ≤ i by omega)
        rw [ec] at hlt
        have hlt2 : fb_ct p i < fb_ct p k := by
          have h1 := fb_ct_mono p (show i + 1 ≤ k by omega)
          rw [fb_ct_succ, hpi] at h1
          simp at h1
          omega
        have q := m5 i a ha (by omega) hik hpi
        rw [g6 (d + (fb_ct p i - fb_ct p d)) a ha (by omega) (by omega), show d + (fb_ct p i - fb_ct p d) + 1 = d + 1 + (fb_ct p i - fb_ct p d) by omega]
        exact q)
      refine ⟨τ', r1, r2, r3, r4, fun s hs => ?_⟩
      have := r5 s hs
      simp -implicitDefEqProofs (disch := omega) only [e_X12_combsOut_24, e_X12_combsOut_24__1, e_X12_combsOut_24__2, e_X12_combsOut_24__3, e_X12_combsOut_24__4, e_X12_combsOut_49, e_X12_combsOut_49__1, e_X12_ruleAt, e1, e2, ed, cx, g1, wx_bd, wx_let, wx_st, wx_lit, wx_ga, wx_sa, pk_mul, nI_add, wx_le, wx_lt, wx_eq, wx_en, wx_ne', wx_nn, wx_ltn, wx_len, wx_nlt, wx_nle, wx_bz0, wx_bz1, if_pos, if_neg, wx_ite, Nat.reduceEqDiff, eq_self, if_true, if_false, not_true_eq_false, not_false_eq_true]
      exact this
    · have pt : p d = true := by rw [hpd]; simp [cx]
      have ec : fb_ct p (d + 1) = fb_ct p d + 1 := by rw [fb_ct_succ, pt]; rfl
      rw [ec] at m2 m5 hmo
      obtain ⟨τ', r1, r2, r3, r4, r5⟩ := ih n τ (by omega) (by omega) m1 (by rw [m2]; congr 1; omega) m3 (fun j a ha hj => m4 j a ha (by omega)) (fun i a ha hi hik hpi => by
        rcases Nat.lt_or_ge d i with q | q
        · have hlt := fb_ct_mono p (show d + 1 ≤ i by omega)
          rw [ec] at hlt
          have := m5 i a ha (by omega) hik hpi
          rw [show d + 1 + (fb_ct p i - (fb_ct p d + 1)) = d + (fb_ct p i - fb_ct p d) by omega] at this
          exact this
        · rw [show i = d by omega, Nat.sub_self, Nat.add_zero]
          exact m4 d a ha (by omega))
      refine ⟨τ', r1, r2, r3, r4, fun s hs => ?_⟩
      have := r5 s hs
      simp -implicitDefEqProofs (disch := omega) only [e_X12_combsOut_24, e_X12_combsOut_24__1, e_X12_combsOut_24__2, e_X12_combsOut_24__3, e_X12_combsOut_24__4, e_X12_combsOut_49, e_X12_combsOut_49__1, e_X12_ruleAt, e1, e2, ed, cx, wx_bd, wx_let, wx_st, wx_lit, wx_ga, wx_sa, pk_mul, nI_add, wx_le, wx_lt, wx_eq, wx_en, wx_ne', wx_nn, wx_ltn, wx_len, wx_nlt, wx_nle, wx_bz0, wx_bz1, if_pos, if_neg, wx_ite, Nat.reduceEqDiff, eq_self, if_true, if_false, not_true_eq_false, not_false_eq_true]
      exact this

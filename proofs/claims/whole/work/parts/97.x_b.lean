/-! what may change while a text is read -/
def wFx (p : Nat → Nat → Bool) (σ0 σ : wg_M) : Prop := ∀ a i, p a i = false → σ a i = σ0 a i
set_option maxHeartbeats 1000000 in
theorem wFx_r (p : Nat → Nat → Bool) (σ : wg_M) : wFx p σ σ := fun _ _ _ => rfl
set_option maxHeartbeats 1000000 in
theorem wFx_t {p : Nat → Nat → Bool} {a b c : wg_M} (h : wFx p a b) (g : wFx p b c) : wFx p a c := fun x i q => (g x i q).trans (h x i q)
set_option maxHeartbeats 1000000 in
theorem wFx_m {p q : Nat → Nat → Bool} {a b : wg_M} (hpq : ∀ x i, p x i = true → q x i = true) (h : wFx p a b) : wFx q a b := fun x i z => h x i (by
  cases c : p x i
  · rfl
  · rw [hpq x i c] at z; cases z)
set_option maxHeartbeats 1000000 in
theorem wFx_u {p : Nat → Nat → Bool} {σ0 σ : wg_M} {a i : Nat} {v : Int32} (h : wFx p σ0 σ) (hp : p a i = true) : wFx p σ0 (wg_u σ a i v) := fun x k z => by
  rw [wx_ur, if_neg (by rintro ⟨rfl, rfl⟩; rw [hp] at z; cases z)]
  exact h x k z
def pS (a i : Nat) : Bool := (a == 260 && i == 7) || (a == 266 && i == 2) || a == 267 || a == 268
def qS (a i : Nat) : Bool := (a == 0 && (i == 16 || i == 17 || i == 18 || i == 19 || i == 29 || i == 33 || i == 34)) || ((a == 16 || a == 17) && decide (800 ≤ i))
/-! TOKENS: sort 0 the end, 1 bad, 2 a word, 3 a number, 4 a sign -/
def wKd (s v : Nat) : Nat := if s = 0 then 1 else if s = 1 then 0 else if s = 2 then (if v < 7 then 266 + v else if v < 17 then 249 + v else 256 + v) else if s = 3 then 2 else v
def wTv (s v : Nat) : Prop := s = 0 ∨ s = 1 ∨ (s = 2 ∧ v < 26) ∨ (s = 3 ∧ v ≤ 9999) ∨ (s = 4 ∧ 40 ≤ v ∧ v ≤ 62)
def wTo (M : Nat) (TS TV : Nat → Nat) : Prop := M ≤ 400 ∧ TS M = 0 ∧ ∀ i, i ≤ M → wTv (TS i) (TV i)
def wTc (M : Nat) (TS TV TF : Nat → Nat) (j : Nat) (σ : wg_M) : Prop := j ≤ M ∧ σ 260 6 = nI (M + 1) ∧ σ 260 7 = nI j ∧ ∀ i, i ≤ M → σ 262 i = nI (wKd (TS i) (TV i)) ∧ (TS i = 3 → σ 263 i = nI (TV i)) ∧ σ 264 i = nI (TF i)
def wTi (M : Nat) (TS TV TF : Nat → Nat) (RM : Nat → wg_M → Prop) : Prop := (∀ j τ, RM j τ → τ 0 18 = nI (TS j) ∧ (2 ≤ TS j → τ 0 19 = nI (TV j)) ∧ τ 0 17 = nI (TF j)) ∧ (∀ j τ τ', RM j τ → (∀ a i, ((a = 0 ∧ 15 ≤ i ∧ i ≤ 19) ∨ a = 9 ∨ a = 10) → τ' a i = τ a i) → RM j τ') ∧ ∀ j τ, j < M → RM j τ → ∃ τ', f_X12_reads 0 τ = some (nI 0, τ') ∧ RM (j + 1) τ' ∧ ∀ a i, ¬ (a = 0 ∧ 16 ≤ i ∧ i ≤ 19) → τ' a i = τ a i
def wCc (C : List (Nat × Int32)) (σ : wg_M) : Prop := σ 266 2 = nI C.length ∧ wo_C (σ 267) (σ 268) 0 C
def wCm (C : List (Nat × Int32)) (τ : wg_M) : Prop := τ 0 29 = nI (wo_l C) ∧ wo_M (fun i => τ 16 (800 + i)) (fun i => τ 17 (800 + i)) 0 C
def wU8 (p : Nat → Nat → Bool) (a i : Nat) : Bool := p a i || (a == 260 && (i == 8 || i == 9))
set_option maxHeartbeats 1000000 in
theorem wU8_m {p q : Nat → Nat → Bool} (h : ∀ a i, p a i = true → q a i = true) (a i : Nat) (z : wU8 p a i = true) : wU8 q a i = true := by
  unfold wU8 at z ⊢
  rw [Bool.or_eq_true] at z ⊢
  exact z.imp (h a i) id
set_option maxHeartbeats 1000000 in
theorem wU8_i {p : Nat → Nat → Bool} (a i : Nat) (z : p a i = true) : wU8 p a i = true := by simp [wU8, z]
def wE (p q : Nat → Nat → Bool) (σ0 τ0 σ τ : wg_M) : Prop := wFx (wU8 p) σ0 σ ∧ wFx q τ0 τ ∧ σ 260 8 = τ 0 33 ∧ σ 260 9 = τ 0 34
set_option maxHeartbeats 1000000 in
theorem wCc_fr {C : List (Nat × Int32)} {σ σ' : wg_M} (h2 : σ' 266 2 = σ 266 2) (h7 : ∀ i, σ' 267 i = σ 267 i) (h8 : ∀ i, σ' 268 i = σ 268 i) (h : wCc C σ) : wCc C σ' :=
  ⟨h2.trans h.1, wo_C_fr C 0 (fun i _ _ => ⟨h7 i, h8 i⟩) h.2⟩
set_option maxHeartbeats 1000000 in
theorem wCm_fr {C : List (Nat × Int32)} {τ τ' : wg_M} (h2 : τ' 0 29 = τ 0 29) (h7 : ∀ i, τ' 16 i = τ 16 i) (h8 : ∀ i, τ' 17 i = τ 17 i) (h : wCm C τ) : wCm C τ' :=
  ⟨h2.trans h.1, wo_M_fr C 0 (fun i _ _ => ⟨h7 _, h8 _⟩) h.2⟩
set_option maxHeartbeats 1000000 in
/-- one code more, the class -/
theorem wl_put {C : List (Nat × Int32)} {σ : wg_M} (h : wCc C σ) (hl : C.length < 400) (k : Nat) (v : Int32) : ∃ σ', f_X3_put 266 (nI (wo_s k)) v σ = some (nI 0, σ') ∧ wCc (C ++ [(k, v)]) σ' ∧ ∀ a i, ¬ (a = 266 ∧ i = 2) → a ≠ 267 → a ≠ 268 → σ' a i = σ a i := by
  obtain ⟨h1, h2⟩ := h
  refine ⟨wg_u (wg_u (wg_u σ 267 C.length (nI (wo_s k))) 268 C.length v) 266 2 (nI (C.length + 1)), by simp -implicitDefEqProofs (disch := omega) only [e_X3_put, e_X3_put__1, e_X3_put__2, e_X3_put__3, h1, wx_uk, wx_un, pk_us, pk_un, wx_bd, wx_let, wx_st, wx_lit, wx_ga, wx_sa, pk_mul, nI_add, wx_le, wx_lt, wx_eq, wx_en, wx_ne', wx_nn, wx_ltn, wx_len, wx_nlt, wx_nle, wx_bz0, wx_bz1, if_pos, if_neg, wx_ite, Nat.reduceEqDiff, eq_self, if_true, if_false, not_true_eq_false, not_false_eq_true], ⟨?_, ?_⟩, fun a i q1 q2 q3 => ?_⟩
  · rw [wx_uk, pk_us, List.length_append]; rfl
  · rw [wo_C_app]
    refine ⟨wo_C_fr C 0 (fun i _ hi => ⟨?_, ?_⟩) h2, ?_, ?_, trivial⟩
    · rw [wx_un (by omega), wx_un (by omega), wx_uk, pk_un (by omega)]
    · rw [wx_un (by omega), wx_uk, pk_un (by omega), wx_un (by omega)]
    · rw [wx_un (by omega), wx_un (by omega), wx_uk, Nat.zero_add, pk_us]
    · rw [wx_un (by omega), wx_uk, Nat.zero_add, pk_us]
  · rw [wx_ur, if_neg q1, wx_ur, if_neg (fun z => q3 z.1), wx_ur, if_neg (fun z => q2 z.1)]
set_option maxHeartbeats 1000000 in
/-- one code more, the reference -/
theorem wl_em_l {τ : wg_M} {m : Nat} (h : τ 0 29 = nI m) (hm : m < 400) (x v : Int32) : f_X12_emits 0 x v τ = some (nI 0, wg_u (wg_u (wg_u τ 16 (800 + m) x) 17 (800 + m) v) 0 29 (nI (m + 1))) := by
  simp -implicitDefEqProofs (disch := omega) only [e_X12_emits, e_X12_emits__1, e_X12_emits__2, e_X12_emits__3, h, wx_uk, wx_un, pk_us, pk_un, wx_bd, wx_let, wx_st, wx_lit, wx_ga, wx_sa, pk_mul, nI_add, wx_le, wx_lt, wx_eq, wx_en, wx_ne', wx_nn, wx_ltn, wx_len, wx_nlt, wx_nle, wx_bz0, wx_bz1, if_pos, if_neg, wx_ite, Nat.reduceEqDiff, eq_self, if_true, if_false, not_true_eq_false, not_false_eq_true]
set_option maxHeartbeats 1000000 in
theorem wl_emi {C : List (Nat × Int32)} {τ : wg_M} (h : wCm C τ) (hl : wo_l C < 400) (k : Nat) (v v' : Int32) (h5 : k ≠ 5) (h11 : k ≤ 11) (hv : k ≤ 1 → v = v') : ∃ τ', f_X12_emits 0 (nI k) v τ = some (nI 0, τ') ∧ wCm (C ++ [(k, v')]) τ' ∧ ∀ a i, ¬ (a = 0 ∧ i = 29) → ¬ ((a = 16 ∨ a = 17) ∧ 800 ≤ i) → τ' a i = τ a i := by
  obtain ⟨h1, h2⟩ := h
  have el : wo_l (C ++ [(k, v')]) = wo_l C + 1 := by
    rw [wo_l_app]
    show wo_l C + ((if k = 5 then 2 else 1) + 0) = _
    rw [if_neg h5]
  refine ⟨_, wl_em_l h1 hl (nI k) v, ⟨?_, ?_⟩, fun a i q1 q2 => ?_⟩
  · rw [wx_uk, pk_us, el]
  · rw [wo_M_app]
    refine ⟨wo_M_fr C 0 (fun i _ hi => ⟨?_, ?_⟩) h2, Or.inr ⟨h5, h11, ?_, fun hk => ?_, trivial⟩⟩
    · rw [wx_un (by omega), wx_un (by omega), wx_uk, pk_un (by omega)]
    · rw [wx_un (by omega), wx_uk, pk_un (by omega), wx_un (by omega)]
    · show wg_u (wg_u (wg_u τ 16 (800 + wo_l C) (nI k)) 17 (800 + wo_l C) v) 0 29 (nI (wo_l C + 1)) 16 (800 + (0 + wo_l C)) = nI k
      rw [wx_un (by omega), wx_un (by omega), wx_uk, Nat.zero_add, pk_us]
    · show wg_u (wg_u (wg_u τ 16 (800 + wo_l C) (nI k)) 17 (800 + wo_l C) v) 0 29 (nI (wo_l C + 1)) 17 (800 + (0 + wo_l C)) = v'
      rw [wx_un (by omega), wx_uk, Nat.zero_add, pk_us]; exact hv hk
  · rw [wx_ur, if_neg q1, wx_ur, if_neg (by omega), wx_ur, if_neg (by omega)]
set_option maxHeartbeats 1000000 in
/-- a number that was put becomes a part by it -/
theorem wl_emi5 {C : List (Nat × Int32)} {v : Int32} {τ : wg_M} (h : wCm (C ++ [(0, v)]) τ) (hl : wo_l C + 1 < 400) : ∃ τ', f_X12_emits 0 (nI 5) (nI 0) τ = some (nI 0, τ') ∧ wCm (C ++ [(5, v)]) τ' ∧ ∀ a i, ¬ (a = 0 ∧ i = 29) → ¬ ((a = 16 ∨ a = 17) ∧ 800 ≤ i) → τ' a i = τ a i := by
  obtain ⟨h1, h2⟩ := h
  have e0 : wo_l (C ++ [(0, v)]) = wo_l C + 1 := by rw [wo_l_app]; rfl
  have el : wo_l (C ++ [(5, v)]) = wo_l C + 2 := by rw [wo_l_app]; rfl
  rw [e0] at h1
  rw [wo_M_app] at h2
  obtain ⟨g1, g2⟩ := h2
  rcases g2 with ⟨z, -⟩ | ⟨-, -, a1, a2, -⟩
  · cases z
  have a2 := a2 (by omega)
  refine ⟨_, wl_em_l h1 hl (nI 5) (nI 0), ⟨?_, ?_⟩, fun a i q1 q2 => ?_⟩
  · rw [wx_uk, pk_us, el]
  · rw [wo_M_app]
    refine ⟨wo_M_fr C 0 (fun i _ hi => ⟨?_, ?_⟩) g1, Or.inl ⟨rfl, ?_, ?_, ?_, trivial⟩⟩
    · rw [wx_un (by omega), wx_un (by omega), wx_uk, pk_un (by omega)]
    · rw [wx_un (by omega), wx_uk, pk_un (by omega), wx_un (by omega)]
    · show wg_u (wg_u (wg_u τ 16 (800 + (wo_l C + 1)) (nI 5)) 17 (800 + (wo_l C + 1)) (nI 0)) 0 29 (nI (wo_l C + 1 + 1)) 16 (800 + (0 + wo_l C)) = nI 0
      rw [wx_un (by omega), wx_un (by omega), wx_uk, pk_un (by omega)]; exact a1
    · show wg_u (wg_u (wg_u τ 16 (800 + (wo_l C + 1)) (nI 5)) 17 (800 + (wo_l C + 1)) (nI 0)) 0 29 (nI (wo_l C + 1 + 1)) 17 (800 + (0 + wo_l C)) = v
      rw [wx_un (by omega), wx_uk, pk_un (by omega), wx_un (by omega)]; exact a2
    · show wg_u (wg_u (wg_u τ 16 (800 + (wo_l C + 1)) (nI 5)) 17 (800 + (wo_l C + 1)) (nI 0)) 0 29 (nI (wo_l C + 1 + 1)) 16 (800 + (0 + wo_l C + 1)) = nI 5
      rw [show 0 + wo_l C + 1 = wo_l C + 1 by omega, wx_un (by omega), wx_un (by omega), wx_uk, pk_us]
  · rw [wx_ur, if_neg q1, wx_ur, if_neg (by omega), wx_ur, if_neg (by omega)]
section TK
variable {M : Nat} {TS TV TF : Nat → Nat} {RM : Nat → wg_M → Prop} {j : Nat} {σ τ : wg_M}
set_option maxHeartbeats 1000000 in
theorem wTc_fr {σ' : wg_M} (hc : wTc M TS TV TF j σ) (h : ∀ a i, ((a = 260 ∧ (i = 6 ∨ i = 7)) ∨ a = 262 ∨ a = 263 ∨ a = 264) → σ' a i = σ a i) : wTc M TS TV TF j σ' := by
  obtain ⟨h1, h2, h3, h4⟩ := hc
  refine ⟨h1, by rw [h 260 6 (by omega)]; exact h2, by rw [h 260 7 (by omega)]; exact h3, fun i hi => ?_⟩
  rw [h 262 i (by omega), h 263 i (by omega), h 264 i (by omega)]
  exact h4 i hi
set_option maxHeartbeats 1000000 in
theorem wTc_nx (hc : wTc M TS TV TF j σ) (hj : j < M) : wTc M TS TV TF (j + 1) (wg_u σ 260 7 (nI (j + 1))) := by
  obtain ⟨h1, h2, h3, h4⟩ := hc
  refine ⟨hj, by rw [wx_uk, pk_un (by omega)]; exact h2, by rw [wx_uk, pk_us], fun i hi => ?_⟩
  rw [wx_un (by omega), wx_un (by omega), wx_un (by omega)]
  exact h4 i hi
set_option maxHeartbeats 1000000 in
theorem wTo_lt (hO : wTo M TS TV) (hj : j ≤ M) (h : TS j ≠ 0) : j < M := by
  rcases Nat.lt_or_ge j M with q | q
  · exact q
  · have : j = M := by omega
    subst this
    exact absurd hO.2.1 h
set_option maxHeartbeats 1000000 in
theorem wl_fail (hO : wTo M TS TV) (hc : wTc M TS TV TF j σ) (x : Int32) : f_X6_fail 260 x σ = some (nI 0, wg_u (wg_u σ 260 8 x) 260 9 (nI (TF j))) := by
  obtain ⟨h1, h2, h3, h4⟩ := hc
  have k := (h4 j h1).2.2
  have hM := hO.1
  simp -implicitDefEqProofs (disch := omega) only [e_X6_fail, e_X6_fail__1, e_X6_fail__2, e_X6_fail__3, h3, k, wx_uk, wx_un, pk_us, pk_un, wx_bd, wx_let, wx_st, wx_lit, wx_ga, wx_sa, pk_mul, nI_add, wx_le, wx_lt, wx_eq, wx_en, wx_ne', wx_nn, wx_ltn, wx_len, wx_nlt, wx_nle, wx_bz0, wx_bz1, if_pos, if_neg, wx_ite, Nat.reduceEqDiff, eq_self, if_true, if_false, not_true_eq_false, not_false_eq_true]
set_option maxHeartbeats 1000000 in
theorem wl_errs (h : τ 0 17 = nI (TF j)) (x : Int32) : f_X12_errs 0 x τ = some (-nI 1, wg_u (wg_u τ 0 33 x) 0 34 (nI (TF j))) := by
  simp -implicitDefEqProofs (disch := omega) only [e_X12_errs, e_X12_errs__1, e_X12_errs__2, h, wx_uk, wx_un, pk_us, pk_un, wx_bd, wx_let, wx_st, wx_lit, wx_ga, wx_sa, pk_mul, nI_add, wx_le, wx_lt, wx_eq, wx_en, wx_ne', wx_nn, wx_ltn, wx_len, wx_nlt, wx_nle, wx_bz0, wx_bz1, if_pos, if_neg, wx_ite, Nat.reduceEqDiff, eq_self, if_true, if_false, not_true_eq_false, not_false_eq_true]
set_option maxHeartbeats 1000000 in
theorem wE_mk {p q : Nat → Nat → Bool} {σ0 τ0 : wg_M} (h1 : wFx p σ0 σ) (h2 : wFx q τ0 τ) (_p8 : (1 : Nat) = 1) (_p9 : (1 : Nat) = 1) (q3 : q 0 33 = true) (q4 : q 0 34 = true) (x : Int32) (y : Int32) : wE p q σ0 τ0 (wg_u (wg_u σ 260 8 x) 260 9 y) (wg_u (wg_u τ 0 33 x) 0 34 y) := by
  refine ⟨wFx_u (wFx_u (wFx_m wU8_i h1) (by simp [wU8])) (by simp [wU8]), wFx_u (wFx_u h2 q3) q4, ?_, ?_⟩
  · simp -implicitDefEqProofs (disch := omega) only [wx_uk, wx_un, pk_us, pk_un]
  · simp -implicitDefEqProofs (disch := omega) only [wx_uk, wx_un, pk_us, pk_un]
set_option maxHeartbeats 1000000 in
theorem wl_sg1 {c : Nat} (r1 : τ 0 18 = nI (TS j)) (r2 : 2 ≤ TS j → τ 0 19 = nI (TV j)) (h : TS j = 4 ∧ TV j = c) : f_X12_isSign 0 (nI c) τ = some (nI 1, τ) := by
  have r2 := r2 (by omega)
  rw [h.1] at r1
  rw [h.2] at r2
  simp -implicitDefEqProofs (disch := omega) only [e_X12_isSign, r1, r2, wx_bd, wx_let, wx_st, wx_lit, wx_ga, wx_sa, pk_mul, nI_add, wx_le, wx_lt, wx_eq, wx_en, wx_ne', wx_nn, wx_ltn, wx_len, wx_nlt, wx_nle, wx_bz0, wx_bz1, if_pos, if_neg, wx_ite, Nat.reduceEqDiff, eq_self, if_true, if_false, not_true_eq_false, not_false_eq_true]
set_option maxHeartbeats 1000000 in
theorem wl_sg0 {c : Nat} (hO : wTo M TS TV) (hj : j ≤ M) (hc : c < 100000) (r1 : τ 0 18 = nI (TS j)) (r2 : 2 ≤ TS j → τ 0 19 = nI (TV j)) (h : ¬ (TS j = 4 ∧ TV j = c)) : f_X12_isSign 0 (nI c) τ = some (nI 0, τ) := by
  have hv := hO.2.2 j hj
  unfold wTv at hv
  by_cases q : TS j = 4
  · have r2 := r2 (by omega)
    have : TV j ≠ c := fun e => h ⟨q, e⟩
    rw [q] at r1
    simp -implicitDefEqProofs (disch := omega) only [e_X12_isSign, r1, r2, wx_bd, wx_let, wx_st, wx_lit, wx_ga, wx_sa, pk_mul, nI_add, wx_le, wx_lt, wx_eq, wx_en, wx_ne', wx_nn, wx_ltn, wx_len, wx_nlt, wx_nle, wx_bz0, wx_bz1, if_pos, if_neg, wx_ite, Nat.reduceEqDiff, eq_self, if_true, if_false, not_true_eq_false, not_false_eq_true]
  · simp -implicitDefEqProofs (disch := omega) only [e_X12_isSign, r1, wx_bd, wx_let, wx_st, wx_lit, wx_ga, wx_sa, pk_mul, nI_add, wx_le, wx_lt, wx_eq, wx_en, wx_ne', wx_nn, wx_ltn, wx_len, wx_nlt, wx_nle, wx_bz0, wx_bz1, if_pos, if_neg, wx_ite, Nat.reduceEqDiff, eq_self, if_true, if_false, not_true_eq_false, not_false_eq_true]
set_option maxHeartbeats 1000000 in
theorem wl_wd1 {c : Nat} (r1 : τ 0 18 = nI (TS j)) (r2 : 2 ≤ TS j → τ 0 19 = nI (TV j)) (h : TS j = 2 ∧ TV j = c) : f_X12_isWord 0 (nI c) τ = some (nI 1, τ) := by
  have r2 := r2 (by omega)
  rw [h.1] at r1
  rw [h.2] at r2
  simp -implicitDefEqProofs (disch := omega) only [e_X12_isWord, r1, r2, wx_bd, wx_let, wx_st, wx_lit, wx_ga, wx_sa, pk_mul, nI_add, wx_le, wx_lt, wx_eq, wx_en, wx_ne', wx_nn, wx_ltn, wx_len, wx_nlt, wx_nle, wx_bz0, wx_bz1, if_pos, if_neg, wx_ite, Nat.reduceEqDiff, eq_self, if_true, if_false, not_true_eq_false, not_false_eq_true]
set_option maxHeartbeats 1000000 in
theorem wl_wd0 {c : Nat} (hO : wTo M TS TV) (hj : j ≤ M) (hc : c < 100000) (r1 : τ 0 18 = nI (TS j)) (r2 : 2 ≤ TS j → τ 0 19 = nI (TV j)) (h : ¬ (TS j = 2 ∧ TV j = c)) : f_X12_isWord 0 (nI c) τ = some (nI 0, τ) := by
  have hv := hO.2.2 j hj
  unfold wTv at hv
  by_cases q : TS j = 2
  · have r2 := r2 (by omega)
    have : TV j ≠ c := fun e => h ⟨q, e⟩
    rw [q] at r1
    simp -implicitDefEqProofs (disch := omega) only [e_X12_isWord, r1, r2, wx_bd, wx_let, wx_st, wx_lit, wx_ga, wx_sa, pk_mul, nI_add, wx_le, wx_lt, wx_eq, wx_en, wx_ne', wx_nn, wx_ltn, wx_len, wx_nlt, wx_nle, wx_bz0, wx_bz1, if_pos, if_neg, wx_ite, Nat.reduceEqDiff, eq_self, if_true, if_false, not_true_eq_false, not_false_eq_true]
  · simp -implicitDefEqProofs (disch := omega) only [e_X12_isWord, r1, wx_bd, wx_let, wx_st, wx_lit, wx_ga, wx_sa, pk_mul, nI_add, wx_le, wx_lt, wx_eq, wx_en, wx_ne', wx_nn, wx_ltn, wx_len, wx_nlt, wx_nle, wx_bz0, wx_bz1, if_pos, if_neg, wx_ite, Nat.reduceEqDiff, eq_self, if_true, if_false, not_true_eq_false, not_false_eq_true]
set_option maxHeartbeats 1000000 in
/-- what is read at a place: a sign, a word -/
theorem wKd_s {s v c : Nat} (hv : wTv s v) (h1 : 40 ≤ c) (h2 : c ≤ 62) : wKd s v = c ↔ s = 4 ∧ v = c := by
  unfold wTv at hv
  unfold wKd
  constructor
  · intro h
    repeat' split at h
    all_goals omega
  · rintro ⟨rfl, rfl⟩
    simp
set_option maxHeartbeats 1000000 in
theorem wKd_w {s v r : Nat} (hv : wTv s v) (hr : r < 26) : wKd s v = wKd 2 r ↔ s = 2 ∧ v = r := by
  unfold wTv at hv
  constructor
  · intro h
    unfold wKd at h
    repeat' split at h
    all_goals omega
  · rintro ⟨rfl, rfl⟩
    rfl
set_option maxHeartbeats 1000000 in
theorem wKd_n {s v : Nat} (hv : wTv s v) : wKd s v = 2 ↔ s = 3 := by
  unfold wTv at hv
  unfold wKd
  constructor
  · intro h
    repeat' split at h
    all_goals omega
  · rintro rfl
    simp
set_option maxHeartbeats 1000000 in
theorem wKd_e {s v : Nat} (hv : wTv s v) : wKd s v = 1 ↔ s = 0 := by
  unfold wTv at hv
  unfold wKd
  constructor
  · intro h
    repeat' split at h
    all_goals omega
  · rintro rfl
    simp
set_option maxHeartbeats 1000000 in
theorem wKd_lt {s v : Nat} (hv : wTv s v) : wKd s v < 300 := by
  unfold wTv at hv
  unfold wKd
  repeat' split
  all_goals omega
end TK

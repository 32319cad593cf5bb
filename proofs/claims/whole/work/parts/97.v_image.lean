/-! THE IMAGE: the reference -/
def wps (a i : Nat) : Nat := match a with
  | 0 => if i = 6 then 295 else if i = 7 then 296 else if i = 8 then 297 else if i = 37 then 298 else if i = 39 then 299 else if i = 41 then 300 else if i = 45 then 301 else if i = 49 then 302 else 303
  | 1 => i
  | 4 => 304 + 5 * i
  | 5 => 344 + i
  | 6 => 354 + 3 * i
  | 7 => 355 + 3 * i
  | 8 => 542 + i
  | 12 => 1143 + 4 * i
  | 13 => 1144 + 4 * i
  | 14 => 1145 + 4 * i
  | 15 => 1146 + 4 * i
  | 16 => 1207 + 2 * i
  | 17 => 1208 + 2 * i
  | 19 => 430 + i
  | 20 => 478 + i
  | 21 => 305 + 5 * i
  | 24 => 306 + 5 * i
  | 25 => 307 + 5 * i
  | 26 => 308 + 5 * i
  | 27 => 356 + 3 * i
  | 29 => 396 + i
  | 30 => 416 + 2 * i
  | 31 => 417 + 2 * i
  | 11 => 1142
  | _ => 0
def wpi (q : Nat) : Nat × Nat :=
  if q < 295 then (1, q)
  else if q < 304 then (0, if q = 295 then 6 else if q = 296 then 7 else if q = 297 then 8 else if q = 298 then 37 else if q = 299 then 39 else if q = 300 then 41 else if q = 301 then 45 else if q = 302 then 49 else 53)
  else if q < 344 then (if (q - 304) % 5 = 0 then 4 else if (q - 304) % 5 = 1 then 21 else if (q - 304) % 5 = 2 then 24 else if (q - 304) % 5 = 3 then 25 else 26, (q - 304) / 5)
  else if q < 354 then (5, q - 344)
  else if q < 396 then (if (q - 354) % 3 = 0 then 6 else if (q - 354) % 3 = 1 then 7 else 27, (q - 354) / 3)
  else if q < 416 then (29, q - 396)
  else if q < 430 then (if (q - 416) % 2 = 0 then 30 else 31, (q - 416) / 2)
  else if q < 478 then (19, q - 430)
  else if q < 542 then (20, q - 478)
  else if q < 1142 then (8, q - 542)
  else if q = 1142 then (11, 0)
  else if q < 1207 then (if (q - 1143) % 4 = 0 then 12 else if (q - 1143) % 4 = 1 then 13 else if (q - 1143) % 4 = 2 then 14 else 15, (q - 1143) / 4)
  else (if (q - 1207) % 2 = 0 then 16 else 17, (q - 1207) / 2)
set_option maxHeartbeats 1000000 in
theorem wLv_lt {a i : Nat} (h : wLv a i = true) : a < 32 ∧ i < 600 := by
  unfold wLv at h
  split at h
  all_goals first
    | (simp only [decide_eq_true_eq] at h; omega)
    | (simp only [Bool.or_eq_true, beq_iff_eq] at h; omega)
    | (simp only [beq_iff_eq] at h; omega)
    | cases h
set_option maxHeartbeats 1000000 in
theorem wps_ok : ∀ a, a < 32 → ∀ i, i < 600 → wLv a i = true → wps a i < 2007 ∧ wpi (wps a i) = (a, i) := by decide +kernel
set_option maxHeartbeats 1000000 in
theorem wps_lt {a i : Nat} (h : wLv a i = true) : wps a i < 2007 := (wps_ok a (wLv_lt h).1 i (wLv_lt h).2 h).1
set_option maxHeartbeats 1000000 in
theorem wps_inj {a i a' i' : Nat} (h : wLv a i = true) (h' : wLv a' i' = true) (e : wps a i = wps a' i') : a = a' ∧ i = i' := by
  have q := (wps_ok a (wLv_lt h).1 i (wLv_lt h).2 h).2
  have q' := (wps_ok a' (wLv_lt h').1 i' (wLv_lt h').2 h').2
  rw [e, q'] at q
  exact ⟨(congrArg Prod.fst q).symm, (congrArg Prod.snd q).symm⟩
set_option maxHeartbeats 1000000 in
theorem wv_ps {τ : wg_M} {a i : Nat} (h : wLv a i = true) : wv τ a i = τ 33 (wps a i) := by
  have ha := (wLv_lt h).1
  rcases (show a = 0 ∨ a = 1 ∨ a = 2 ∨ a = 3 ∨ a = 4 ∨ a = 5 ∨ a = 6 ∨ a = 7 ∨ a = 8 ∨ a = 9 ∨ a = 10 ∨ a = 11 ∨ a = 12 ∨ a = 13 ∨ a = 14 ∨ a = 15 ∨ a = 16 ∨ a = 17 ∨ a = 18 ∨ a = 19 ∨ a = 20 ∨ a = 21 ∨ a = 22 ∨ a = 23 ∨ a = 24 ∨ a = 25 ∨ a = 26 ∨ a = 27 ∨ a = 28 ∨ a = 29 ∨ a = 30 ∨ a = 31 by omega) with rfl | rfl | rfl | rfl | rfl | rfl | rfl | rfl | rfl | rfl | rfl | rfl | rfl | rfl | rfl | rfl | rfl | rfl | rfl | rfl | rfl | rfl | rfl | rfl | rfl | rfl | rfl | rfl | rfl | rfl | rfl | rfl
  · simp only [wLv, Bool.or_eq_true, beq_iff_eq] at h
    rcases h with (((((((rfl | rfl) | rfl) | rfl) | rfl) | rfl) | rfl) | rfl) | rfl <;> rfl
  all_goals first
    | rfl
    | (simp [wLv] at h)
set_option maxHeartbeats 1000000 in
theorem wx_ur (s : wg_M) (k j : Nat) (v : Int32) (a i : Nat) : wg_u s k j v a i = if a = k ∧ i = j then v else s a i := by
  by_cases c : a = k
  · subst c
    rw [wx_uk]
    by_cases d : i = j
    · subst d; rw [pk_us, if_pos ⟨rfl, rfl⟩]
    · rw [pk_un d, if_neg (fun q => d q.2)]
  · rw [wx_un c, if_neg (fun q => c q.1)]
def wQi (m : Bool) (τ0 : wg_M) (p : Nat) (τ : wg_M) : Prop := τ 0 59 = nI p ∧ τ 0 57 = (if m = true then nI 1 else nI 0) ∧ (∀ a i, wLv a i = false → a ≠ 33 → ¬ (a = 0 ∧ i = 59) → τ a i = τ0 a i) ∧ (m = true → (∀ a i, wLv a i = true → τ a i = τ0 a i) ∧ ∀ a i, wLv a i = true → wps a i < p → τ 33 (wps a i) = τ0 a i) ∧ (m = false → (∀ i, τ 33 i = τ0 33 i) ∧ ∀ a i, wLv a i = true → wps a i < p → τ a i = τ0 33 (wps a i))
section IM
variable {m : Bool} {τ0 : wg_M}
set_option maxHeartbeats 1000000 in
theorem wl_kp {τ : wg_M} {p a i : Nat} (h : wQi m τ0 p τ) (hv : wLv a i = true) (hp : wps a i = p) : ∃ v s, f_X12_keeps 0 (τ a i) τ = some (v, s) ∧ wQi m τ0 (p + 1) (wg_u s a i v) := by
  obtain ⟨q1, q2, q3, q4, q5⟩ := h
  have hb := wps_lt hv
  have n33 : a ≠ 33 := by rintro rfl; simp [wLv] at hv
  have n57 : ¬ (a = 0 ∧ i = 57) := by rintro ⟨rfl, rfl⟩; simp [wLv] at hv
  have n59 : ¬ (a = 0 ∧ i = 59) := by rintro ⟨rfl, rfl⟩; simp [wLv] at hv
  have v59 : wLv 0 59 = false := rfl
  have v57 : wLv 0 57 = false := rfl
  cases m with
  | true =>
    obtain ⟨r1, r2⟩ := q4 rfl
    simp only [if_true] at q2
    refine ⟨τ a i, wg_u (wg_u τ 0 59 (nI (p + 1))) 33 p (τ a i), ?_, ?_, ?_, fun a' i' hv' h33 h59 => ?_, fun _ => ⟨fun a' i' hv' => ?_, fun a' i' hv' hlt => ?_⟩, fun q => by cases q⟩
    · simp -implicitDefEqProofs (disch := omega) only [e_X12_keeps, e_X12_keeps__1, e_X12_keeps__2, e_X12_keeps__3, q1, q2, wx_uk, wx_un, pk_us, pk_un, wx_sub1, wx_bd, wx_let, wx_st, wx_lit, wx_ga, wx_sa, pk_mul, nI_add, wx_le, wx_lt, wx_eq, wx_en, wx_ne', wx_nn, wx_ltn, wx_len, wx_nlt, wx_nle, wx_bz0, wx_bz1, if_pos, if_neg, wx_ite, Nat.reduceEqDiff, eq_self, if_true, if_false, not_true_eq_false, not_false_eq_true]
    · rw [wx_ur, if_neg (fun q => n59 ⟨q.1.symm, q.2.symm⟩), wx_ur, if_neg (by omega), wx_ur, if_pos ⟨rfl, rfl⟩]
    · rw [wx_ur, if_neg (fun q => n57 ⟨q.1.symm, q.2.symm⟩), wx_ur, if_neg (by omega), wx_ur, if_neg (by omega)]
      exact q2
    · rw [wx_ur, if_neg (by rintro ⟨rfl, rfl⟩; rw [hv] at hv'; cases hv'), wx_ur, if_neg (by omega), wx_ur, if_neg h59]
      exact q3 a' i' hv' h33 h59
    · rw [wx_ur]
      by_cases c : a' = a ∧ i' = i
      · rw [if_pos c, c.1, c.2]; exact r1 a i hv
      · have n33' : a' ≠ 33 := by rintro rfl; simp [wLv] at hv'
        rw [if_neg c, wx_ur, if_neg (by omega), wx_ur, if_neg (by rintro ⟨rfl, rfl⟩; simp [wLv] at hv')]
        exact r1 a' i' hv'
    · rw [wx_ur, if_neg (fun q => n33 q.1.symm), wx_ur]
      by_cases c : wps a' i' = p
      · obtain ⟨e1, e2⟩ := wps_inj hv' hv (c.trans hp.symm)
        rw [if_pos ⟨rfl, c⟩, e1, e2]; exact r1 a i hv
      · rw [if_neg (fun q => c q.2), wx_ur, if_neg (by omega)]
        exact r2 a' i' hv' (by omega)
  | false =>
    obtain ⟨r1, r2⟩ := q5 rfl
    simp only [Bool.false_eq_true, if_false] at q2
    refine ⟨τ 33 p, wg_u τ 0 59 (nI (p + 1)), ?_, ?_, ?_, fun a' i' hv' h33 h59 => ?_, fun q => (by cases q), fun _ => ⟨fun i' => ?_, fun a' i' hv' hlt => ?_⟩⟩
    · simp -implicitDefEqProofs (disch := omega) only [e_X12_keeps, e_X12_keeps__1, e_X12_keeps__2, e_X12_keeps__3, q1, q2, wx_uk, wx_un, pk_us, pk_un, wx_sub1, wx_bd, wx_let, wx_st, wx_lit, wx_ga, wx_sa, pk_mul, nI_add, wx_le, wx_lt, wx_eq, wx_en, wx_ne', wx_nn, wx_ltn, wx_len, wx_nlt, wx_nle, wx_bz0, wx_bz1, if_pos, if_neg, wx_ite, Nat.reduceEqDiff, eq_self, if_true, if_false, not_true_eq_false, not_false_eq_true]
    · rw [wx_ur, if_neg (fun q => n59 ⟨q.1.symm, q.2.symm⟩), wx_ur, if_pos ⟨rfl, rfl⟩]
    · rw [wx_ur, if_neg (fun q => n57 ⟨q.1.symm, q.2.symm⟩), wx_ur, if_neg (by omega)]
      exact q2
    · rw [wx_ur, if_neg (by rintro ⟨rfl, rfl⟩; rw [hv] at hv'; cases hv'), wx_ur, if_neg h59]
      exact q3 a' i' hv' h33 h59
    · rw [wx_ur, if_neg (fun q => n33 q.1.symm), wx_ur, if_neg (by omega)]
      exact r1 i'
    · rw [wx_ur]
      by_cases c : a' = a ∧ i' = i
      · rw [if_pos c, c.1, c.2, hp]; exact r1 p
      · rw [if_neg c, wx_ur, if_neg (by rintro ⟨rfl, rfl⟩; simp [wLv] at hv')]
        refine r2 a' i' hv' ?_
        have : wps a' i' ≠ p := fun q => c (wps_inj hv' hv (q.trans hp.symm))
        omega
set_option maxHeartbeats 1000000 in
theorem wl_kl96 : ∀ d i f τ, i + d = 400 → d < f → wQi m τ0 (1207 + 2 * i) τ → ∃ τ', f_X12_keepsLaw_96 f 0 (nI i) τ = some (nI 0, τ') ∧ wQi m τ0 2007 τ' := by
  intro d
  induction d with
  | zero =>
    intro i f τ hi hf h
    obtain ⟨f, rfl⟩ : ∃ k, f = k + 1 := ⟨f - 1, by omega⟩
    obtain rfl : i = 400 := by omega
    exact ⟨τ, by simp -implicitDefEqProofs (disch := omega) only [e_X12_keepsLaw_96, e_X12_keepsLaw_96__1, e_X12_keepsLaw_96__2, e_X12_keepsLaw_96__3, e_X12_keepsLaw_96__4, e_X12_keepsLaw_96__5, e_X12_keepsLaw_96__6, e_X12_keepsLaw_96__7, wx_bd, wx_let, wx_st, wx_lit, wx_ga, wx_sa, pk_mul, nI_add, wx_le, wx_lt, wx_eq, wx_en, wx_ne', wx_nn, wx_ltn, wx_len, wx_nlt, wx_nle, wx_bz0, wx_bz1, if_pos, if_neg, wx_ite, Nat.reduceEqDiff, eq_self, if_true, if_false, not_true_eq_false, not_false_eq_true], h⟩
  | succ d ih =>
    intro i f τ hi hf h
    obtain ⟨f, rfl⟩ : ∃ k, f = k + 1 := ⟨f - 1, by omega⟩
    obtain ⟨v0, s0, k0, g0⟩ := wl_kp (a := 16) (i := i) h (by simp [wLv]; omega) (by simp only [wps] <;> omega)
    obtain ⟨v1, s1, k1, g1⟩ := wl_kp (a := 17) (i := i) g0 (by simp [wLv]; omega) (by simp only [wps] <;> omega)
    have e : 1207 + 2 * i + 1 + 1 = 1207 + 2 * (i + 1) := by omega
    rw [e] at g1
    obtain ⟨τ', r1, r2⟩ := ih (i + 1) f _ (by omega) (by omega) g1
    refine ⟨τ', ?_, r2⟩
    simp -implicitDefEqProofs (disch := omega) only [e_X12_keepsLaw_96, e_X12_keepsLaw_96__1, e_X12_keepsLaw_96__2, e_X12_keepsLaw_96__3, e_X12_keepsLaw_96__4, e_X12_keepsLaw_96__5, e_X12_keepsLaw_96__6, e_X12_keepsLaw_96__7, k0, k1, wx_bd, wx_let, wx_st, wx_lit, wx_ga, wx_sa, pk_mul, nI_add, wx_le, wx_lt, wx_eq, wx_en, wx_ne', wx_nn, wx_ltn, wx_len, wx_nlt, wx_nle, wx_bz0, wx_bz1, if_pos, if_neg, wx_ite, Nat.reduceEqDiff, eq_self, if_true, if_false, not_true_eq_false, not_false_eq_true]
    exact r1
set_option maxHeartbeats 1000000 in
theorem wl_kl18 : ∀ d i f τ, i + d = 16 → d < f → wQi m τ0 (1143 + 4 * i) τ → ∃ τ', f_X12_keepsLaw_18 f 0 (nI i) τ = some (nI 0, τ') ∧ wQi m τ0 2007 τ' := by
  intro d
  induction d with
  | zero =>
    intro i f τ hi hf h
    obtain ⟨f, rfl⟩ : ∃ k, f = k + 1 := ⟨f - 1, by omega⟩
    obtain rfl : i = 16 := by omega
    obtain ⟨τ', r1, r2⟩ := wl_kl96 400 0 wg_N τ (by omega) (by rw [wx_N]; omega) h
    exact ⟨τ', by simp -implicitDefEqProofs (disch := omega) only [e_X12_keepsLaw_18, e_X12_keepsLaw_18__1, e_X12_keepsLaw_18__2, e_X12_keepsLaw_18__3, e_X12_keepsLaw_18__4, e_X12_keepsLaw_18__5, e_X12_keepsLaw_18__6, e_X12_keepsLaw_18__7, e_X12_keepsLaw_18__8, e_X12_keepsLaw_18__9, e_X12_keepsLaw_18__10, e_X12_keepsLaw_18__11, e_X12_keepsLaw_18__12, e_X12_keepsLaw_18__13, wx_bd, wx_let, wx_st, wx_lit, wx_ga, wx_sa, pk_mul, nI_add, wx_le, wx_lt, wx_eq, wx_en, wx_ne', wx_nn, wx_ltn, wx_len, wx_nlt, wx_nle, wx_bz0, wx_bz1, if_pos, if_neg, wx_ite, Nat.reduceEqDiff, eq_self, if_true, if_false, not_true_eq_false, not_false_eq_true]; exact r1, r2⟩
  | succ d ih =>
    intro i f τ hi hf h
    obtain ⟨f, rfl⟩ : ∃ k, f = k + 1 := ⟨f - 1, by omega⟩
    obtain ⟨v0, s0, k0, g0⟩ := wl_kp (a := 12) (i := i) h (by simp [wLv]; omega) (by simp only [wps] <;> omega)
    obtain ⟨v1, s1, k1, g1⟩ := wl_kp (a := 13) (i := i) g0 (by simp [wLv]; omega) (by simp only [wps] <;> omega)
    obtain ⟨v2, s2, k2, g2⟩ := wl_kp (a := 14) (i := i) g1 (by simp [wLv]; omega) (by simp only [wps] <;> omega)
    obtain ⟨v3, s3, k3, g3⟩ := wl_kp (a := 15) (i := i) g2 (by simp [wLv]; omega) (by simp only [wps] <;> omega)
    have e : 1143 + 4 * i + 1 + 1 + 1 + 1 = 1143 + 4 * (i + 1) := by omega
    rw [e] at g3
    obtain ⟨τ', r1, r2⟩ := ih (i + 1) f _ (by omega) (by omega) g3
    refine ⟨τ', ?_, r2⟩
    simp -implicitDefEqProofs (disch := omega) only [e_X12_keepsLaw_18, e_X12_keepsLaw_18__1, e_X12_keepsLaw_18__2, e_X12_keepsLaw_18__3, e_X12_keepsLaw_18__4, e_X12_keepsLaw_18__5, e_X12_keepsLaw_18__6, e_X12_keepsLaw_18__7, e_X12_keepsLaw_18__8, e_X12_keepsLaw_18__9, e_X12_keepsLaw_18__10, e_X12_keepsLaw_18__11, e_X12_keepsLaw_18__12, e_X12_keepsLaw_18__13, k0, k1, k2, k3, wx_bd, wx_let, wx_st, wx_lit, wx_ga, wx_sa, pk_mul, nI_add, wx_le, wx_lt, wx_eq, wx_en, wx_ne', wx_nn, wx_ltn, wx_len, wx_nlt, wx_nle, wx_bz0, wx_bz1, if_pos, if_neg, wx_ite, Nat.reduceEqDiff, eq_self, if_true, if_false, not_true_eq_false, not_false_eq_true]
    exact r1
set_option maxHeartbeats 1000000 in
theorem wl_kl {τ : wg_M} (h : wQi m τ0 1142 τ) : ∃ τ', f_X12_keepsLaw 0 τ = some (nI 0, τ') ∧ wQi m τ0 2007 τ' := by
  obtain ⟨v0, s0, k0, g0⟩ := wl_kp (a := 11) (i := 0) h rfl rfl
  obtain ⟨τ', r1, r2⟩ := wl_kl18 16 0 wg_N _ (by omega) (by rw [wx_N]; omega) g0
  exact ⟨τ', by simp -implicitDefEqProofs (disch := omega) only [e_X12_keepsLaw, e_X12_keepsLaw__1, e_X12_keepsLaw__2, e_X12_keepsLaw__3, k0, wx_bd, wx_let, wx_st, wx_lit, wx_ga, wx_sa, pk_mul, nI_add, wx_le, wx_lt, wx_eq, wx_en, wx_ne', wx_nn, wx_ltn, wx_len, wx_nlt, wx_nle, wx_bz0, wx_bz1, if_pos, if_neg, wx_ite, Nat.reduceEqDiff, eq_self, if_true, if_false, not_true_eq_false, not_false_eq_true]; exact r1, r2⟩
set_option maxHeartbeats 1000000 in
theorem wl_kt294 : ∀ d i f τ, i + d = 64 → d < f → wQi m τ0 (478 + i) τ → ∃ τ', f_X12_keepsTold_294 f 0 (nI i) τ = some (nI 0, τ') ∧ wQi m τ0 542 τ' := by
  intro d
  induction d with
  | zero =>
    intro i f τ hi hf h
    obtain ⟨f, rfl⟩ : ∃ k, f = k + 1 := ⟨f - 1, by omega⟩
    obtain rfl : i = 64 := by omega
    exact ⟨τ, by simp -implicitDefEqProofs (disch := omega) only [e_X12_keepsTold_294, e_X12_keepsTold_294__1, e_X12_keepsTold_294__2, e_X12_keepsTold_294__3, e_X12_keepsTold_294__4, wx_bd, wx_let, wx_st, wx_lit, wx_ga, wx_sa, pk_mul, nI_add, wx_le, wx_lt, wx_eq, wx_en, wx_ne', wx_nn, wx_ltn, wx_len, wx_nlt, wx_nle, wx_bz0, wx_bz1, if_pos, if_neg, wx_ite, Nat.reduceEqDiff, eq_self, if_true, if_false, not_true_eq_false, not_false_eq_true], h⟩
  | succ d ih =>
    intro i f τ hi hf h
    obtain ⟨f, rfl⟩ : ∃ k, f = k + 1 := ⟨f - 1, by omega⟩
    obtain ⟨v0, s0, k0, g0⟩ := wl_kp (a := 20) (i := i) h (by simp [wLv]; omega) (by simp only [wps] <;> omega)
    have e : 478 + i + 1 = 478 + (i + 1) := by omega
    rw [e] at g0
    obtain ⟨τ', r1, r2⟩ := ih (i + 1) f _ (by omega) (by omega) g0
    refine ⟨τ', ?_, r2⟩
    simp -implicitDefEqProofs (disch := omega) only [e_X12_keepsTold_294, e_X12_keepsTold_294__1, e_X12_keepsTold_294__2, e_X12_keepsTold_294__3, e_X12_keepsTold_294__4, k0, wx_bd, wx_let, wx_st, wx_lit, wx_ga, wx_sa, pk_mul, nI_add, wx_le, wx_lt, wx_eq, wx_en, wx_ne', wx_nn, wx_ltn, wx_len, wx_nlt, wx_nle, wx_bz0, wx_bz1, if_pos, if_neg, wx_ite, Nat.reduceEqDiff, eq_self, if_true, if_false, not_true_eq_false, not_false_eq_true]
    exact r1
set_option maxHeartbeats 1000000 in
theorem wl_kt264 : ∀ d i f τ, i + d = 48 → d < f → wQi m τ0 (430 + i) τ → ∃ τ', f_X12_keepsTold_264 f 0 (nI i) τ = some (nI 0, τ') ∧ wQi m τ0 542 τ' := by
  intro d
  induction d with
  | zero =>
    intro i f τ hi hf h
    obtain ⟨f, rfl⟩ : ∃ k, f = k + 1 := ⟨f - 1, by omega⟩
    obtain rfl : i = 48 := by omega
    obtain ⟨τ', r1, r2⟩ := wl_kt294 64 0 wg_N τ (by omega) (by rw [wx_N]; omega) h
    exact ⟨τ', by simp -implicitDefEqProofs (disch := omega) only [e_X12_keepsTold_264, e_X12_keepsTold_264__1, e_X12_keepsTold_264__2, e_X12_keepsTold_264__3, e_X12_keepsTold_264__4, wx_bd, wx_let, wx_st, wx_lit, wx_ga, wx_sa, pk_mul, nI_add, wx_le, wx_lt, wx_eq, wx_en, wx_ne', wx_nn, wx_ltn, wx_len, wx_nlt, wx_nle, wx_bz0, wx_bz1, if_pos, if_neg, wx_ite, Nat.reduceEqDiff, eq_self, if_true, if_false, not_true_eq_false, not_false_eq_true]; exact r1, r2⟩
  | succ d ih =>
    intro i f τ hi hf h
    obtain ⟨f, rfl⟩ : ∃ k, f = k + 1 := ⟨f - 1, by omega⟩
    obtain ⟨v0, s0, k0, g0⟩ := wl_kp (a := 19) (i := i) h (by simp [wLv]; omega) (by simp only [wps] <;> omega)
    have e : 430 + i + 1 = 430 + (i + 1) := by omega
    rw [e] at g0
    obtain ⟨τ', r1, r2⟩ := ih (i + 1) f _ (by omega) (by omega) g0
    refine ⟨τ', ?_, r2⟩
    simp -implicitDefEqProofs (disch := omega) only [e_X12_keepsTold_264, e_X12_keepsTold_264__1, e_X12_keepsTold_264__2, e_X12_keepsTold_264__3, e_X12_keepsTold_264__4, k0, wx_bd, wx_let, wx_st, wx_lit, wx_ga, wx_sa, pk_mul, nI_add, wx_le, wx_lt, wx_eq, wx_en, wx_ne', wx_nn, wx_ltn, wx_len, wx_nlt, wx_nle, wx_bz0, wx_bz1, if_pos, if_neg, wx_ite, Nat.reduceEqDiff, eq_self, if_true, if_false, not_true_eq_false, not_false_eq_true]
    exact r1
set_option maxHeartbeats 1000000 in
theorem wl_kt218 : ∀ d i f τ, i + d = 7 → d < f → wQi m τ0 (416 + 2 * i) τ → ∃ τ', f_X12_keepsTold_218 f 0 (nI i) τ = some (nI 0, τ') ∧ wQi m τ0 542 τ' := by
  intro d
  induction d with
  | zero =>
    intro i f τ hi hf h
    obtain ⟨f, rfl⟩ : ∃ k, f = k + 1 := ⟨f - 1, by omega⟩
    obtain rfl : i = 7 := by omega
    obtain ⟨τ', r1, r2⟩ := wl_kt264 48 0 wg_N τ (by omega) (by rw [wx_N]; omega) h
    exact ⟨τ', by simp -implicitDefEqProofs (disch := omega) only [e_X12_keepsTold_218, e_X12_keepsTold_218__1, e_X12_keepsTold_218__2, e_X12_keepsTold_218__3, e_X12_keepsTold_218__4, e_X12_keepsTold_218__5, e_X12_keepsTold_218__6, e_X12_keepsTold_218__7, wx_bd, wx_let, wx_st, wx_lit, wx_ga, wx_sa, pk_mul, nI_add, wx_le, wx_lt, wx_eq, wx_en, wx_ne', wx_nn, wx_ltn, wx_len, wx_nlt, wx_nle, wx_bz0, wx_bz1, if_pos, if_neg, wx_ite, Nat.reduceEqDiff, eq_self, if_true, if_false, not_true_eq_false, not_false_eq_true]; exact r1, r2⟩
  | succ d ih =>
    intro i f τ hi hf h
    obtain ⟨f, rfl⟩ : ∃ k, f = k + 1 := ⟨f - 1, by omega⟩
    obtain ⟨v0, s0, k0, g0⟩ := wl_kp (a := 30) (i := i) h (by simp [wLv]; omega) (by simp only [wps] <;> omega)
    obtain ⟨v1, s1, k1, g1⟩ := wl_kp (a := 31) (i := i) g0 (by simp [wLv]; omega) (by simp only [wps] <;> omega)
    have e : 416 + 2 * i + 1 + 1 = 416 + 2 * (i + 1) := by omega
    rw [e] at g1
    obtain ⟨τ', r1, r2⟩ := ih (i + 1) f _ (by omega) (by omega) g1
    refine ⟨τ', ?_, r2⟩
    simp -implicitDefEqProofs (disch := omega) only [e_X12_keepsTold_218, e_X12_keepsTold_218__1, e_X12_keepsTold_218__2, e_X12_keepsTold_218__3, e_X12_keepsTold_218__4, e_X12_keepsTold_218__5, e_X12_keepsTold_218__6, e_X12_keepsTold_218__7, k0, k1, wx_bd, wx_let, wx_st, wx_lit, wx_ga, wx_sa, pk_mul, nI_add, wx_le, wx_lt, wx_eq, wx_en, wx_ne', wx_nn, wx_ltn, wx_len, wx_nlt, wx_nle, wx_bz0, wx_bz1, if_pos, if_neg, wx_ite, Nat.reduceEqDiff, eq_self, if_true, if_false, not_true_eq_false, not_false_eq_true]
    exact r1
set_option maxHeartbeats 1000000 in
theorem wl_kt188 : ∀ d i f τ, i + d = 20 → d < f → wQi m τ0 (396 + i) τ → ∃ τ', f_X12_keepsTold_188 f 0 (nI i) τ = some (nI 0, τ') ∧ wQi m τ0 542 τ' := by
  intro d
  induction d with
  | zero =>
    intro i f τ hi hf h
    obtain ⟨f, rfl⟩ : ∃ k, f = k + 1 := ⟨f - 1, by omega⟩
    obtain rfl : i = 20 := by omega
    obtain ⟨τ', r1, r2⟩ := wl_kt218 7 0 wg_N τ (by omega) (by rw [wx_N]; omega) h
    exact ⟨τ', by simp -implicitDefEqProofs (disch := omega) only [e_X12_keepsTold_188, e_X12_keepsTold_188__1, e_X12_keepsTold_188__2, e_X12_keepsTold_188__3, e_X12_keepsTold_188__4, wx_bd, wx_let, wx_st, wx_lit, wx_ga, wx_sa, pk_mul, nI_add, wx_le, wx_lt, wx_eq, wx_en, wx_ne', wx_nn, wx_ltn, wx_len, wx_nlt, wx_nle, wx_bz0, wx_bz1, if_pos, if_neg, wx_ite, Nat.reduceEqDiff, eq_self, if_true, if_false, not_true_eq_false, not_false_eq_true]; exact r1, r2⟩
  | succ d ih =>
    intro i f τ hi hf h
    obtain ⟨f, rfl⟩ : ∃ k, f = k + 1 := ⟨f - 1, by omega⟩
    obtain ⟨v0, s0, k0, g0⟩ := wl_kp (a := 29) (i := i) h (by simp [wLv]; omega) (by simp only [wps] <;> omega)
    have e : 396 + i + 1 = 396 + (i + 1) := by omega
    rw [e] at g0
    obtain ⟨τ', r1, r2⟩ := ih (i + 1) f _ (by omega) (by omega) g0
    refine ⟨τ', ?_, r2⟩
    simp -implicitDefEqProofs (disch := omega) only [e_X12_keepsTold_188, e_X12_keepsTold_188__1, e_X12_keepsTold_188__2, e_X12_keepsTold_188__3, e_X12_keepsTold_188__4, k0, wx_bd, wx_let, wx_st, wx_lit, wx_ga, wx_sa, pk_mul, nI_add, wx_le, wx_lt, wx_eq, wx_en, wx_ne', wx_nn, wx_ltn, wx_len, wx_nlt, wx_nle, wx_bz0, wx_bz1, if_pos, if_neg, wx_ite, Nat.reduceEqDiff, eq_self, if_true, if_false, not_true_eq_false, not_false_eq_true]
    exact r1
set_option maxHeartbeats 1000000 in
theorem wl_kt126 : ∀ d i f τ, i + d = 14 → d < f → wQi m τ0 (354 + 3 * i) τ → ∃ τ', f_X12_keepsTold_126 f 0 (nI i) τ = some (nI 0, τ') ∧ wQi m τ0 542 τ' := by
  intro d
  induction d with
  | zero =>
    intro i f τ hi hf h
    obtain ⟨f, rfl⟩ : ∃ k, f = k + 1 := ⟨f - 1, by omega⟩
    obtain rfl : i = 14 := by omega
    obtain ⟨τ', r1, r2⟩ := wl_kt188 20 0 wg_N τ (by omega) (by rw [wx_N]; omega) h
    exact ⟨τ', by simp -implicitDefEqProofs (disch := omega) only [e_X12_keepsTold_126, e_X12_keepsTold_126__1, e_X12_keepsTold_126__2, e_X12_keepsTold_126__3, e_X12_keepsTold_126__4, e_X12_keepsTold_126__5, e_X12_keepsTold_126__6, e_X12_keepsTold_126__7, e_X12_keepsTold_126__8, e_X12_keepsTold_126__9, e_X12_keepsTold_126__10, wx_bd, wx_let, wx_st, wx_lit, wx_ga, wx_sa, pk_mul, nI_add, wx_le, wx_lt, wx_eq, wx_en, wx_ne', wx_nn, wx_ltn, wx_len, wx_nlt, wx_nle, wx_bz0, wx_bz1, if_pos, if_neg, wx_ite, Nat.reduceEqDiff, eq_self, if_true, if_false, not_true_eq_false, not_false_eq_true]; exact r1, r2⟩
  | succ d ih =>
    intro i f τ hi hf h
    obtain ⟨f, rfl⟩ : ∃ k, f = k + 1 := ⟨f - 1, by omega⟩
    obtain ⟨v0, s0, k0, g0⟩ := wl_kp (a := 6) (i := i) h (by simp [wLv]; omega) (by simp only [wps] <;> omega)
    obtain ⟨v1, s1, k1, g1⟩ := wl_kp (a := 7) (i := i) g0 (by simp [wLv]; omega) (by simp only [wps] <;> omega)
    obtain ⟨v2, s2, k2, g2⟩ := wl_kp (a := 27) (i := i) g1 (by simp [wLv]; omega) (by simp only [wps] <;> omega)
    have e : 354 + 3 * i + 1 + 1 + 1 = 354 + 3 * (i + 1) := by omega
    rw [e] at g2
    obtain ⟨τ', r1, r2⟩ := ih (i + 1) f _ (by omega) (by omega) g2
    refine ⟨τ', ?_, r2⟩
    simp -implicitDefEqProofs (disch := omega) only [e_X12_keepsTold_126, e_X12_keepsTold_126__1, e_X12_keepsTold_126__2, e_X12_keepsTold_126__3, e_X12_keepsTold_126__4, e_X12_keepsTold_126__5, e_X12_keepsTold_126__6, e_X12_keepsTold_126__7, e_X12_keepsTold_126__8, e_X12_keepsTold_126__9, e_X12_keepsTold_126__10, k0, k1, k2, wx_bd, wx_let, wx_st, wx_lit, wx_ga, wx_sa, pk_mul, nI_add, wx_le, wx_lt, wx_eq, wx_en, wx_ne', wx_nn, wx_ltn, wx_len, wx_nlt, wx_nle, wx_bz0, wx_bz1, if_pos, if_neg, wx_ite, Nat.reduceEqDiff, eq_self, if_true, if_false, not_true_eq_false, not_false_eq_true]
    exact r1
set_option maxHeartbeats 1000000 in
theorem wl_kt96 : ∀ d i f τ, i + d = 10 → d < f → wQi m τ0 (344 + i) τ → ∃ τ', f_X12_keepsTold_96 f 0 (nI i) τ = some (nI 0, τ') ∧ wQi m τ0 542 τ' := by
  intro d
  induction d with
  | zero =>
    intro i f τ hi hf h
    obtain ⟨f, rfl⟩ : ∃ k, f = k + 1 := ⟨f - 1, by omega⟩
    obtain rfl : i = 10 := by omega
    obtain ⟨τ', r1, r2⟩ := wl_kt126 14 0 wg_N τ (by omega) (by rw [wx_N]; omega) h
    exact ⟨τ', by simp -implicitDefEqProofs (disch := omega) only [e_X12_keepsTold_96, e_X12_keepsTold_96__1, e_X12_keepsTold_96__2, e_X12_keepsTold_96__3, e_X12_keepsTold_96__4, wx_bd, wx_let, wx_st, wx_lit, wx_ga, wx_sa, pk_mul, nI_add, wx_le, wx_lt, wx_eq, wx_en, wx_ne', wx_nn, wx_ltn, wx_len, wx_nlt, wx_nle, wx_bz0, wx_bz1, if_pos, if_neg, wx_ite, Nat.reduceEqDiff, eq_self, if_true, if_false, not_true_eq_false, not_false_eq_true]; exact r1, r2⟩
  | succ d ih =>
    intro i f τ hi hf h
    obtain ⟨f, rfl⟩ : ∃ k, f = k + 1 := ⟨f - 1, by omega⟩
    obtain ⟨v0, s0, k0, g0⟩ := wl_kp (a := 5) (i := i) h (by simp [wLv]; omega) (by simp only [wps] <;> omega)
    have e : 344 + i + 1 = 344 + (i + 1) := by omega
    rw [e] at g0
    obtain ⟨τ', r1, r2⟩ := ih (i + 1) f _ (by omega) (by omega) g0
    refine ⟨τ', ?_, r2⟩
    simp -implicitDefEqProofs (disch := omega) only [e_X12_keepsTold_96, e_X12_keepsTold_96__1, e_X12_keepsTold_96__2, e_X12_keepsTold_96__3, e_X12_keepsTold_96__4, k0, wx_bd, wx_let, wx_st, wx_lit, wx_ga, wx_sa, pk_mul, nI_add, wx_le, wx_lt, wx_eq, wx_en, wx_ne', wx_nn, wx_ltn, wx_len, wx_nlt, wx_nle, wx_bz0, wx_bz1, if_pos, if_neg, wx_ite, Nat.reduceEqDiff, eq_self, if_true, if_false, not_true_eq_false, not_false_eq_true]
    exact r1
set_option maxHeartbeats 1000000 in
theorem wl_kt2 : ∀ d i f τ, i + d = 8 → d < f → wQi m τ0 (304 + 5 * i) τ → ∃ τ', f_X12_keepsTold_2 f 0 (nI i) τ = some (nI 0, τ') ∧ wQi m τ0 542 τ' := by
  intro d
  induction d with
  | zero =>
    intro i f τ hi hf h
    obtain ⟨f, rfl⟩ : ∃ k, f = k + 1 := ⟨f - 1, by omega⟩
    obtain rfl : i = 8 := by omega
    obtain ⟨τ', r1, r2⟩ := wl_kt96 10 0 wg_N τ (by omega) (by rw [wx_N]; omega) h
    exact ⟨τ', by simp -implicitDefEqProofs (disch := omega) only [e_X12_keepsTold_2, e_X12_keepsTold_2__1, e_X12_keepsTold_2__2, e_X12_keepsTold_2__3, e_X12_keepsTold_2__4, e_X12_keepsTold_2__5, e_X12_keepsTold_2__6, e_X12_keepsTold_2__7, e_X12_keepsTold_2__8, e_X12_keepsTold_2__9, e_X12_keepsTold_2__10, e_X12_keepsTold_2__11, e_X12_keepsTold_2__12, e_X12_keepsTold_2__13, e_X12_keepsTold_2__14, e_X12_keepsTold_2__15, e_X12_keepsTold_2__16, wx_bd, wx_let, wx_st, wx_lit, wx_ga, wx_sa, pk_mul, nI_add, wx_le, wx_lt, wx_eq, wx_en, wx_ne', wx_nn, wx_ltn, wx_len, wx_nlt, wx_nle, wx_bz0, wx_bz1, if_pos, if_neg, wx_ite, Nat.reduceEqDiff, eq_self, if_true, if_false, not_true_eq_false, not_false_eq_true]; exact r1, r2⟩
  | succ d ih =>
    intro i f τ hi hf h
    obtain ⟨f, rfl⟩ : ∃ k, f = k + 1 := ⟨f - 1, by omega⟩
    obtain ⟨v0, s0, k0, g0⟩ := wl_kp (a := 4) (i := i) h (by simp [wLv]; omega) (by simp only [wps] <;> omega)
    obtain ⟨v1, s1, k1, g1⟩ := wl_kp (a := 21) (i := i) g0 (by simp [wLv]; omega) (by simp only [wps] <;> omega)
    obtain ⟨v2, s2, k2, g2⟩ := wl_kp (a := 24) (i := i) g1 (by simp [wLv]; omega) (by simp only [wps] <;> omega)
    obtain ⟨v3, s3, k3, g3⟩ := wl_kp (a := 25) (i := i) g2 (by simp [wLv]; omega) (by simp only [wps] <;> omega)
    obtain ⟨v4, s4, k4, g4⟩ := wl_kp (a := 26) (i := i) g3 (by simp [wLv]; omega) (by simp only [wps] <;> omega)
    have e : 304 + 5 * i + 1 + 1 + 1 + 1 + 1 = 304 + 5 * (i + 1) := by omega
    rw [e] at g4
    obtain ⟨τ', r1, r2⟩ := ih (i + 1) f _ (by omega) (by omega) g4
    refine ⟨τ', ?_, r2⟩
    simp -implicitDefEqProofs (disch := omega) only [e_X12_keepsTold_2, e_X12_keepsTold_2__1, e_X12_keepsTold_2__2, e_X12_keepsTold_2__3, e_X12_keepsTold_2__4, e_X12_keepsTold_2__5, e_X12_keepsTold_2__6, e_X12_keepsTold_2__7, e_X12_keepsTold_2__8, e_X12_keepsTold_2__9, e_X12_keepsTold_2__10, e_X12_keepsTold_2__11, e_X12_keepsTold_2__12, e_X12_keepsTold_2__13, e_X12_keepsTold_2__14, e_X12_keepsTold_2__15, e_X12_keepsTold_2__16, k0, k1, k2, k3, k4, wx_bd, wx_let, wx_st, wx_lit, wx_ga, wx_sa, pk_mul, nI_add, wx_le, wx_lt, wx_eq, wx_en, wx_ne', wx_nn, wx_ltn, wx_len, wx_nlt, wx_nle, wx_bz0, wx_bz1, if_pos, if_neg, wx_ite, Nat.reduceEqDiff, eq_self, if_true, if_false, not_true_eq_false, not_false_eq_true]
    exact r1
set_option maxHeartbeats 1000000 in
theorem wl_kt {τ : wg_M} (h : wQi m τ0 304 τ) : ∃ τ', f_X12_keepsTold 0 τ = some (nI 0, τ') ∧ wQi m τ0 542 τ' := by
  obtain ⟨τ', r1, r2⟩ := wl_kt2 8 0 wg_N τ (by omega) (by rw [wx_N]; omega) h
  exact ⟨τ', by rw [e_X12_keepsTold]; exact r1, r2⟩
set_option maxHeartbeats 1000000 in
theorem wl_km {τ : wg_M} (h : wQi m τ0 295 τ) : ∃ τ', f_X12_keepsMany 0 τ = some (nI 0, τ') ∧ wQi m τ0 304 τ' := by
  obtain ⟨v0, s0, k0, g0⟩ := wl_kp (a := 0) (i := 6) h rfl rfl
  obtain ⟨v1, s1, k1, g1⟩ := wl_kp (a := 0) (i := 7) g0 rfl rfl
  obtain ⟨v2, s2, k2, g2⟩ := wl_kp (a := 0) (i := 8) g1 rfl rfl
  obtain ⟨v3, s3, k3, g3⟩ := wl_kp (a := 0) (i := 37) g2 rfl rfl
  obtain ⟨v4, s4, k4, g4⟩ := wl_kp (a := 0) (i := 39) g3 rfl rfl
  obtain ⟨v5, s5, k5, g5⟩ := wl_kp (a := 0) (i := 41) g4 rfl rfl
  obtain ⟨v6, s6, k6, g6⟩ := wl_kp (a := 0) (i := 45) g5 rfl rfl
  obtain ⟨v7, s7, k7, g7⟩ := wl_kp (a := 0) (i := 49) g6 rfl rfl
  obtain ⟨v8, s8, k8, g8⟩ := wl_kp (a := 0) (i := 53) g7 rfl rfl
  exact ⟨_, by simp -implicitDefEqProofs (disch := omega) only [e_X12_keepsMany, e_X12_keepsMany__1, e_X12_keepsMany__2, e_X12_keepsMany__3, e_X12_keepsMany__4, e_X12_keepsMany__5, e_X12_keepsMany__6, e_X12_keepsMany__7, e_X12_keepsMany__8, e_X12_keepsMany__9, e_X12_keepsMany__10, e_X12_keepsMany__11, e_X12_keepsMany__12, e_X12_keepsMany__13, e_X12_keepsMany__14, e_X12_keepsMany__15, e_X12_keepsMany__16, e_X12_keepsMany__17, e_X12_keepsMany__18, k0, k1, k2, k3, k4, k5, k6, k7, k8, wx_bd, wx_let, wx_st, wx_lit, wx_ga, wx_sa, pk_mul, nI_add, wx_le, wx_lt, wx_eq, wx_en, wx_ne', wx_nn, wx_ltn, wx_len, wx_nlt, wx_nle, wx_bz0, wx_bz1, if_pos, if_neg, wx_ite, Nat.reduceEqDiff, eq_self, if_true, if_false, not_true_eq_false, not_false_eq_true], g8⟩
def wIo (m : Bool) (τ : wg_M) : wg_M := if m = true then τ else wg_u τ 0 3 (nI 0)
set_option maxHeartbeats 1000000 in
theorem wl_im74 : ∀ d i f τ, i + d = 600 → d < f → wQi m τ0 (542 + i) τ → ∃ τ', f_X12_image_74 f 0 (if m = true then nI 1 else nI 0) (nI i) τ = some (nI 1, wIo m τ') ∧ wQi m τ0 2007 τ' := by
  intro d
  induction d with
  | zero =>
    intro i f τ hi hf h
    obtain ⟨f, rfl⟩ : ∃ k, f = k + 1 := ⟨f - 1, by omega⟩
    obtain rfl : i = 600 := by omega
    obtain ⟨τ', r1, r2⟩ := wl_kl h
    refine ⟨τ', ?_, r2⟩
    cases m with
    | true => simp -implicitDefEqProofs (disch := omega) only [e_X12_image_74, e_X12_image_74__1, e_X12_image_74__2, e_X12_image_74__3, e_X12_image_74__4, e_X12_image_74__5, e_X12_image_74__6, r1, wIo, wx_bd, wx_let, wx_st, wx_lit, wx_ga, wx_sa, pk_mul, nI_add, wx_le, wx_lt, wx_eq, wx_en, wx_ne', wx_nn, wx_ltn, wx_len, wx_nlt, wx_nle, wx_bz0, wx_bz1, if_pos, if_neg, wx_ite, Nat.reduceEqDiff, eq_self, if_true, if_false, not_true_eq_false, not_false_eq_true]
    | false => simp -implicitDefEqProofs (disch := omega) only [e_X12_image_74, e_X12_image_74__1, e_X12_image_74__2, e_X12_image_74__3, e_X12_image_74__4, e_X12_image_74__5, e_X12_image_74__6, r1, wIo, Bool.false_eq_true, wx_bd, wx_let, wx_st, wx_lit, wx_ga, wx_sa, pk_mul, nI_add, wx_le, wx_lt, wx_eq, wx_en, wx_ne', wx_nn, wx_ltn, wx_len, wx_nlt, wx_nle, wx_bz0, wx_bz1, if_pos, if_neg, wx_ite, Nat.reduceEqDiff, eq_self, if_true, if_false, not_true_eq_false, not_false_eq_true]
  | succ d ih =>
    intro i f τ hi hf h
    obtain ⟨f, rfl⟩ : ∃ k, f = k + 1 := ⟨f - 1, by omega⟩
    obtain ⟨v0, s0, k0, g0⟩ := wl_kp (a := 8) (i := i) h (by simp [wLv]; omega) (by simp only [wps] <;> omega)
    have e : 542 + i + 1 = 542 + (i + 1) := by omega
    rw [e] at g0
    obtain ⟨τ', r1, r2⟩ := ih (i + 1) f _ (by omega) (by omega) g0
    refine ⟨τ', ?_, r2⟩
    simp -implicitDefEqProofs (disch := omega) only [e_X12_image_74, e_X12_image_74__1, e_X12_image_74__2, e_X12_image_74__3, e_X12_image_74__4, e_X12_image_74__5, e_X12_image_74__6, k0, wx_bd, wx_let, wx_st, wx_lit, wx_ga, wx_sa, pk_mul, nI_add, wx_le, wx_lt, wx_eq, wx_en, wx_ne', wx_nn, wx_ltn, wx_len, wx_nlt, wx_nle, wx_bz0, wx_bz1, if_pos, if_neg, wx_ite, Nat.reduceEqDiff, eq_self, if_true, if_false, not_true_eq_false, not_false_eq_true]
    exact r1
set_option maxHeartbeats 1000000 in
theorem wl_im35 : ∀ d i f τ, i + d = 295 → d < f → wQi m τ0 (i) τ → ∃ τ', f_X12_image_35 f 0 (if m = true then nI 1 else nI 0) (nI i) τ = some (nI 1, wIo m τ') ∧ wQi m τ0 2007 τ' := by
  intro d
  induction d with
  | zero =>
    intro i f τ hi hf h
    obtain ⟨f, rfl⟩ : ∃ k, f = k + 1 := ⟨f - 1, by omega⟩
    obtain rfl : i = 295 := by omega
    obtain ⟨t1, r1, r2⟩ := wl_km h
    obtain ⟨t2, r3, r4⟩ := wl_kt r2
    obtain ⟨τ', r5, r6⟩ := wl_im74 600 0 wg_N t2 (by omega) (by rw [wx_N]; omega) r4
    refine ⟨τ', ?_, r6⟩
    simp -implicitDefEqProofs (disch := omega) only [e_X12_image_35, e_X12_image_35__1, e_X12_image_35__2, e_X12_image_35__3, e_X12_image_35__4, e_X12_image_35__5, e_X12_image_35__6, r1, r3, wx_bd, wx_let, wx_st, wx_lit, wx_ga, wx_sa, pk_mul, nI_add, wx_le, wx_lt, wx_eq, wx_en, wx_ne', wx_nn, wx_ltn, wx_len, wx_nlt, wx_nle, wx_bz0, wx_bz1, if_pos, if_neg, wx_ite, Nat.reduceEqDiff, eq_self, if_true, if_false, not_true_eq_false, not_false_eq_true]
    exact r5
  | succ d ih =>
    intro i f τ hi hf h
    obtain ⟨f, rfl⟩ : ∃ k, f = k + 1 := ⟨f - 1, by omega⟩
    obtain ⟨v0, s0, k0, g0⟩ := wl_kp (a := 1) (i := i) h (by simp [wLv]; omega) (by simp only [wps] <;> omega)
    have e : i + 1 = (i + 1) := by omega
    rw [e] at g0
    obtain ⟨τ', r1, r2⟩ := ih (i + 1) f _ (by omega) (by omega) g0
    refine ⟨τ', ?_, r2⟩
    simp -implicitDefEqProofs (disch := omega) only [e_X12_image_35, e_X12_image_35__1, e_X12_image_35__2, e_X12_image_35__3, e_X12_image_35__4, e_X12_image_35__5, e_X12_image_35__6, k0, wx_bd, wx_let, wx_st, wx_lit, wx_ga, wx_sa, pk_mul, nI_add, wx_le, wx_lt, wx_eq, wx_en, wx_ne', wx_nn, wx_ltn, wx_len, wx_nlt, wx_nle, wx_bz0, wx_bz1, if_pos, if_neg, wx_ite, Nat.reduceEqDiff, eq_self, if_true, if_false, not_true_eq_false, not_false_eq_true]
    exact r1
end IM

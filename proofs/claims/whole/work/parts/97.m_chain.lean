section FC
variable {τ0 : wg_M} {m : Nat → Nat}
set_option maxHeartbeats 1000000 in
theorem wLm_set {τ : wg_M} {v : Nat → Nat} {i y : Nat} (hL : wLm τ v) : wLm (wg_u τ 28 i (nI y)) (fun x => if x = i then y else v x) := fun x hx => by
  show wg_u τ 28 i (nI y) 28 x = nI (if x = i then y else v x)
  rw [wx_uk]
  by_cases c : x = i
  · subst c; rw [pk_us, if_pos rfl]
  · rw [pk_un c, if_neg c]; exact hL x hx
set_option maxHeartbeats 1000000 in
theorem wl_fc31 (hm : ∀ a, a < 14 → τ0 27 a = nI (m a) ∧ m a < 16384) (k23 : Nat → Int32 → wg_M → Option (Int32 × wg_M)) {r : Nat} (hr : r < 14) : ∀ d i f v τ, i + d = 14 → d < f → (∀ x, x ≠ 28 → τ x = τ0 x) → wLm τ v → (∀ x, x < 14 → v x + d ≤ 1000000) → ∃ τ', (∀ x, x ≠ 28 → τ' x = τ0 x) ∧ wLm τ' (wrw m d i v) ∧ f_X12_findsChained_31 k23 f 0 (nI r) (nI i) τ = k23 0 (nI (r + 1)) τ' := by
  intro d
  induction d with
  | zero =>
    intro i f v τ hi hf hs hL hb
    obtain ⟨f, rfl⟩ : ∃ k, f = k + 1 := ⟨f - 1, by omega⟩
    exact ⟨τ, hs, hL, by simp -implicitDefEqProofs (disch := omega) only [e_X12_findsChained_31, e_X12_findsChained_31__1, e_X12_findsChained_31__2, e_X12_findsChained_31__3, e_X12_findsChained_31__4, wx_bd, wx_let, wx_st, wx_lit, wx_ga, wx_sa, pk_mul, nI_add, wx_le, wx_lt, wx_eq, wx_en, wx_ne', wx_nn, wx_ltn, wx_len, wx_nlt, wx_nle, wx_bz0, wx_bz1, if_pos, if_neg, wx_ite, Nat.reduceEqDiff, eq_self, if_true, if_false, not_true_eq_false, not_false_eq_true]⟩
  | succ d ih =>
    intro i f v τ hi hf hs hL hb
    obtain ⟨f, rfl⟩ : ∃ k, f = k + 1 := ⟨f - 1, by omega⟩
    have lf := wl_lF hm (show i < 14 by omega) hs hL (fun x hx => by have := hb x hx; omega)
    have wb : wmx m v i 14 + (d + 1) ≤ 1000000 := by
      have := wmx_bd (m := m) (v := v) (a := i) (B := 1000000 - (d + 1)) 14 (fun c hc => by have := hb c hc; omega)
      have := hb 0 (by omega)
      omega
    obtain ⟨τ', g1, g2, g3⟩ := ih (i + 1) f (wrp m v i) (wg_u τ 28 i (nI (wmx m v i 14 + 1))) (by omega) (by omega) (fun x hx => by rw [wx_un hx]; exact hs x hx) (wLm_set hL) (fun x hx => by
      have := hb x hx
      unfold wrp
      split <;> omega)
    refine ⟨τ', g1, g2, ?_⟩
    simp -implicitDefEqProofs (disch := omega) only [e_X12_findsChained_31, e_X12_findsChained_31__1, e_X12_findsChained_31__2, e_X12_findsChained_31__3, e_X12_findsChained_31__4, lf, wx_bd, wx_let, wx_st, wx_lit, wx_ga, wx_sa, pk_mul, nI_add, wx_le, wx_lt, wx_eq, wx_en, wx_ne', wx_nn, wx_ltn, wx_len, wx_nlt, wx_nle, wx_bz0, wx_bz1, if_pos, if_neg, wx_ite, Nat.reduceEqDiff, eq_self, if_true, if_false, not_true_eq_false, not_false_eq_true]
    exact g3
set_option maxHeartbeats 1000000 in
theorem wl_fc62 (hm : ∀ a, a < 14 → τ0 27 a = nI (m a) ∧ m a < 16384) {v : Nat → Nat} {τ : wg_M} (hs : ∀ x, x ≠ 28 → τ x = τ0 x) (hL : wLm τ v) (hb : ∀ x, x < 14 → v x ≤ 1000000) : ∀ d i f, i + d = 14 → d < f → ∃ b, b ≤ 1 ∧ f_X12_findsChained_62 f 0 (nI i) τ = some (nI b, τ) ∧ (b = 1 ↔ ∀ a, i ≤ a → a < 14 → v a = wmx m v a 14 + 1) := by
  intro d
  induction d with
  | zero =>
    intro i f hi hf
    obtain ⟨f, rfl⟩ : ∃ k, f = k + 1 := ⟨f - 1, by omega⟩
    exact ⟨1, by omega, by simp -implicitDefEqProofs (disch := omega) only [e_X12_findsChained_62, e_X12_findsChained_62__1, e_X12_findsChained_62__2, e_X12_findsChained_62__3, wx_bd, wx_let, wx_st, wx_lit, wx_ga, wx_sa, pk_mul, nI_add, wx_le, wx_lt, wx_eq, wx_en, wx_ne', wx_nn, wx_ltn, wx_len, wx_nlt, wx_nle, wx_bz0, wx_bz1, if_pos, if_neg, wx_ite, Nat.reduceEqDiff, eq_self, if_true, if_false, not_true_eq_false, not_false_eq_true], ⟨fun _ a h1 h2 => by omega, fun _ => rfl⟩⟩
  | succ d ih =>
    intro i f hi hf
    obtain ⟨f, rfl⟩ : ∃ k, f = k + 1 := ⟨f - 1, by omega⟩
    have lf := wl_lF hm (show i < 14 by omega) hs hL hb
    have l := hL i (by omega)
    have hv := hb i (by omega)
    have wb := wmx_bd (m := m) (v := v) (a := i) (B := 1000000) 14 hb
    by_cases c : v i = wmx m v i 14 + 1
    · obtain ⟨b, b1, b2, b3⟩ := ih (i + 1) f (by omega) (by omega)
      have l' : τ 28 i = nI (wmx m v i 14 + 1) := by rw [l, c]
      refine ⟨b, b1, by simp -implicitDefEqProofs (disch := omega) only [e_X12_findsChained_62, e_X12_findsChained_62__1, e_X12_findsChained_62__2, e_X12_findsChained_62__3, lf, l', wx_bd, wx_let, wx_st, wx_lit, wx_ga, wx_sa, pk_mul, nI_add, wx_le, wx_lt, wx_eq, wx_en, wx_ne', wx_nn, wx_ltn, wx_len, wx_nlt, wx_nle, wx_bz0, wx_bz1, if_pos, if_neg, wx_ite, Nat.reduceEqDiff, eq_self, if_true, if_false, not_true_eq_false, not_false_eq_true]; exact b2, b3.trans ⟨fun h a h1 h2 => ?_, fun h a h1 h2 => h a (by omega) h2⟩⟩
      by_cases e : a = i
      · subst e; exact c
      · exact h a (by omega) h2
    · refine ⟨0, by omega, by simp -implicitDefEqProofs (disch := omega) only [e_X12_findsChained_62, e_X12_findsChained_62__1, e_X12_findsChained_62__2, e_X12_findsChained_62__3, lf, l, wx_bd, wx_let, wx_st, wx_lit, wx_ga, wx_sa, pk_mul, nI_add, wx_le, wx_lt, wx_eq, wx_en, wx_ne', wx_nn, wx_ltn, wx_len, wx_nlt, wx_nle, wx_bz0, wx_bz1, if_pos, if_neg, wx_ite, Nat.reduceEqDiff, eq_self, if_true, if_false, not_true_eq_false, not_false_eq_true], ⟨fun q => by omega, fun h => absurd (h i (Nat.le_refl _) (by omega)) c⟩⟩
set_option maxHeartbeats 1000000 in
theorem wl_fc23 (hm : ∀ a, a < 14 → τ0 27 a = nI (m a) ∧ m a < 16384) : ∀ d r f v τ, r + d = 14 → d < f → (∀ x, x ≠ 28 → τ x = τ0 x) → wLm τ v → (∀ x, x < 14 → v x ≤ 1 + 14 * r) → ∃ b τ' v', b ≤ 1 ∧ f_X12_findsChained_23 f 0 (nI r) τ = some (nI b, τ') ∧ (∀ x, x ≠ 28 → τ' x = τ0 x) ∧ wLm τ' v' ∧ (∀ x, x < 14 → v' x ≤ 1000000) ∧ (b = 1 → ∀ a, a < 14 → v' a = wmx m v' a 14 + 1) ∧ ∀ u, wSt (fun a c => (m a).testBit c = true) u → (∀ x, x < 14 → v x ≤ u x) → (∀ x, x < 14 → u x ≤ r + 1 → v x = u x) → b = 1 := by
  intro d
  induction d with
  | zero =>
    intro r f v τ hr hf hs hL hb
    obtain ⟨f, rfl⟩ : ∃ k, f = k + 1 := ⟨f - 1, by omega⟩
    have hb' : ∀ x, x < 14 → v x ≤ 1000000 := fun x hx => by have := hb x hx; omega
    obtain ⟨b, b1, b2, b3⟩ := wl_fc62 hm hs hL hb' 14 0 wg_N (by omega) (by rw [wx_N]; omega)
    refine ⟨b, τ, v, b1, by simp -implicitDefEqProofs (disch := omega) only [e_X12_findsChained_23, wx_bd, wx_let, wx_st, wx_lit, wx_ga, wx_sa, pk_mul, nI_add, wx_le, wx_lt, wx_eq, wx_en, wx_ne', wx_nn, wx_ltn, wx_len, wx_nlt, wx_nle, wx_bz0, wx_bz1, if_pos, if_neg, wx_ite, Nat.reduceEqDiff, eq_self, if_true, if_false, not_true_eq_false, not_false_eq_true]; exact b2, hs, hL, hb', fun q a ha => (b3.1 q) a (by omega) ha, fun u hu h1 h2 => b3.2 (fun a _ ha => ?_)⟩
    have ev : ∀ x, x < 14 → v x = u x := fun x hx => h2 x hx (by have := wSt_14 hu hx; omega)
    obtain ⟨-, -, a3⟩ := wrp_ok (r := 14) ha hu h1 (fun x hx _ => ev x hx)
    have := a3 (by have := wSt_14 hu ha; omega)
    unfold wrp at this
    rw [if_pos rfl] at this
    rw [this, ev a ha]
  | succ d ih =>
    intro r f v τ hr hf hs hL hb
    obtain ⟨f, rfl⟩ : ∃ k, f = k + 1 := ⟨f - 1, by omega⟩
    obtain ⟨τ1, g1, g2, g3⟩ := wl_fc31 hm (f_X12_findsChained_23 f) (r := r) (by omega) 14 0 wg_N v τ (by omega) (by rw [wx_N]; omega) hs hL (fun x hx => by have := hb x hx; omega)
    obtain ⟨b, τ', v', k1, k2, k3, k4, k5, k6, k7⟩ := ih (r + 1) f (wrw m 14 0 v) τ1 (by omega) (by omega) g1 g2 (fun x hx => by have := wrw_bd (m := m) 14 0 _ v (by omega) hb x hx; omega)
    refine ⟨b, τ', v', k1, ?_, k3, k4, k5, k6, fun u hu h1 h2 => ?_⟩
    · simp -implicitDefEqProofs (disch := omega) only [e_X12_findsChained_23, wx_bd, wx_let, wx_st, wx_lit, wx_ga, wx_sa, pk_mul, nI_add, wx_le, wx_lt, wx_eq, wx_en, wx_ne', wx_nn, wx_ltn, wx_len, wx_nlt, wx_nle, wx_bz0, wx_bz1, if_pos, if_neg, wx_ite, Nat.reduceEqDiff, eq_self, if_true, if_false, not_true_eq_false, not_false_eq_true]
      rw [g3]
      exact k2
    · obtain ⟨a1, a2⟩ := wrw_ok (m := m) (r := r) hu 14 0 v (by omega) h1 h2 (fun x hx => by omega)
      exact k7 u hu a1 a2
set_option maxHeartbeats 1000000 in
theorem wl_fc2 : ∀ d i f τ, i + d = 14 → d < f → ∃ τ', f_X12_findsChained_2 f 0 (nI i) τ = f_X12_findsChained_23 wg_N 0 (nI 0) τ' ∧ (∀ x, x ≠ 28 → τ' x = τ x) ∧ (∀ x, i ≤ x → x < 14 → τ' 28 x = nI 1) ∧ ∀ x, x < i → τ' 28 x = τ 28 x := by
  intro d
  induction d with
  | zero =>
    intro i f τ hi hf
    obtain ⟨f, rfl⟩ : ∃ k, f = k + 1 := ⟨f - 1, by omega⟩
    exact ⟨τ, by simp -implicitDefEqProofs (disch := omega) only [e_X12_findsChained_2, e_X12_findsChained_2__1, e_X12_findsChained_2__2, wx_bd, wx_let, wx_st, wx_lit, wx_ga, wx_sa, pk_mul, nI_add, wx_le, wx_lt, wx_eq, wx_en, wx_ne', wx_nn, wx_ltn, wx_len, wx_nlt, wx_nle, wx_bz0, wx_bz1, if_pos, if_neg, wx_ite, Nat.reduceEqDiff, eq_self, if_true, if_false, not_true_eq_false, not_false_eq_true], fun _ _ => rfl, fun x h1 h2 => by omega, fun _ _ => rfl⟩
  | succ d ih =>
    intro i f τ hi hf
    obtain ⟨f, rfl⟩ : ∃ k, f = k + 1 := ⟨f - 1, by omega⟩
    obtain ⟨τ', g1, g2, g3, g4⟩ := ih (i + 1) f (wg_u τ 28 i (nI 1)) (by omega) (by omega)
    refine ⟨τ', ?_, fun x hx => by rw [g2 x hx, wx_un hx], fun x h1 h2 => ?_, fun x hx => by rw [g4 x (by omega), wx_uk, pk_un (by omega)]⟩
    · simp -implicitDefEqProofs (disch := omega) only [e_X12_findsChained_2, e_X12_findsChained_2__1, e_X12_findsChained_2__2, wx_bd, wx_let, wx_st, wx_lit, wx_ga, wx_sa, pk_mul, nI_add, wx_le, wx_lt, wx_eq, wx_en, wx_ne', wx_nn, wx_ltn, wx_len, wx_nlt, wx_nle, wx_bz0, wx_bz1, if_pos, if_neg, wx_ite, Nat.reduceEqDiff, eq_self, if_true, if_false, not_true_eq_false, not_false_eq_true]
      exact g1
    · by_cases e : x = i
      · subst e; rw [g4 x (by omega), wx_uk, pk_us]
      · exact g3 x (by omega) h2
set_option maxHeartbeats 1000000 in
theorem wl_fc (hm : ∀ a, a < 14 → τ0 27 a = nI (m a) ∧ m a < 16384) : ∃ b τ' v', b ≤ 1 ∧ f_X12_findsChained 0 τ0 = some (nI b, τ') ∧ (∀ x, x ≠ 28 → τ' x = τ0 x) ∧ wLm τ' v' ∧ (∀ x, x < 14 → v' x ≤ 1000000) ∧ (b = 1 → wSt (fun a c => (m a).testBit c = true) v') ∧ ∀ u, wSt (fun a c => (m a).testBit c = true) u → b = 1 := by
  obtain ⟨τ1, g1, g2, g3, -⟩ := wl_fc2 14 0 wg_N τ0 (by omega) (by rw [wx_N]; omega)
  obtain ⟨b, τ', v', k1, k2, k3, k4, k5, k6, k7⟩ := wl_fc23 hm 14 0 wg_N (fun _ => 1) τ1 (by omega) (by rw [wx_N]; omega) g2 (fun x hx => g3 x (by omega) hx) (fun _ _ => by omega)
  refine ⟨b, τ', v', k1, by rw [e_X12_findsChained]; rw [wx_lit, g1]; exact k2, k3, k4, k5, fun q => ⟨fun a c ha hc hE => ?_, fun a ha => ?_⟩, fun u hu => k7 u hu (fun x hx => wSt_pos hu hx) (fun x hx hr => by have := wSt_pos hu hx; omega)⟩
  · have e1 := k6 q a ha
    have e2 := wmx_ge (m := m) (v := v') (a := a) 14 hc hE
    show v' c < v' a
    omega
  · have e1 := k6 q a ha
    rcases wmx_hit (m := m) (v := v') (a := a) 14 with z | ⟨c, hc, hE, z⟩
    · exact Or.inl (by omega)
    · exact Or.inr ⟨by omega, c, hc, hE, by omega⟩
end FC

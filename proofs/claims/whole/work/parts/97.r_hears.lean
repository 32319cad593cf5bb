section HC
variable {h d : Nat → Nat} {N : Nat} {σ τ : wg_M}
set_option maxHeartbeats 1000000 in
theorem wx_les {a b c : Nat} (ha : a < 100000) (hb : b < 100000) (hc : c < 100000) : (nI a ≤ nI b - nI c) = (a + c ≤ b) := by
  apply propext
  rw [Int32.le_iff_toInt_le, nI_toInt (by omega), pk_sub_toInt (by omega) (by omega)]
  omega
set_option maxHeartbeats 1000000 in
theorem wx_sle {a b c : Nat} (ha : a < 100000) (hb : b < 100000) (hc : c < 100000) : (nI b - nI c ≤ nI a) = (b ≤ a + c) := by
  apply propext
  rw [Int32.le_iff_toInt_le, nI_toInt (by omega), pk_sub_toInt (by omega) (by omega)]
  omega
set_option maxHeartbeats 1000000 in
theorem wx_lts {a b c : Nat} (ha : a < 100000) (hb : b < 100000) (hc : c < 100000) : (nI a < nI b - nI c) = (a + c < b) := by
  apply propext
  rw [Int32.lt_iff_toInt_lt, nI_toInt (by omega), pk_sub_toInt (by omega) (by omega)]
  omega
set_option maxHeartbeats 1000000 in
theorem wl_mxs {a b c : Nat} (ha : a < 100000) (hb : b < 100000) (hc : c < 100000) (σ : wg_M) : f_J9_max_7cf53 (nI a) (nI b - nI c) σ = some (nI (max a (b - c)), σ) := by
  rw [wl_max]
  by_cases q : a + c ≤ b
  · rw [if_pos (by rw [wx_les ha hb hc]; exact q), wx_sub (by omega), Nat.max_eq_right (by omega)]
  · rw [if_neg (by rw [wx_les ha hb hc]; exact q), Nat.max_eq_left (by omega)]
set_option maxHeartbeats 1000000 in
theorem wl_grs {a b c : Nat} (ha : a < 100000) (hb : b < 100000) (hc : c < 100000) (τ : wg_M) : f_X12_greater 0 (nI b - nI c) (nI a) τ = some (nI (max a (b - c)), τ) := by
  rw [e_X12_greater]
  by_cases q : b ≤ a + c
  · rw [if_pos (by rw [wx_sle ha hb hc]; exact q), Nat.max_eq_left (by omega)]
  · rw [if_neg (by rw [wx_sle ha hb hc]; exact q), wx_sub (by omega), Nat.max_eq_right (by omega)]
def wOk (d : Nat → Nat) (S i : Nat) : Option Nat → Prop
  | none => ∀ j, j < i → S.testBit j = true
  | some e => e < i ∧ S.testBit e = false ∧ ∀ j, j < i → S.testBit j = false → d e ≤ d j
/-- the class's hard cases -/
def wHc (h d : Nat → Nat) (N : Nat) (σ : wg_M) : Prop := N ≤ 7 ∧ σ 49 10 = nI N ∧ ∀ j, j < N → σ 56 j = nI (h j) ∧ h j ≤ 24 ∧ σ 57 j = nI (d j) ∧ d j ≤ 99
/-- the reference's hard cases -/
def wHm (h d : Nat → Nat) (N : Nat) (τ : wg_M) : Prop := N ≤ 7 ∧ τ 0 53 = nI N ∧ ∀ j, j < N → τ 30 j = nI (h j) ∧ h j ≤ 24 ∧ τ 31 j = nI (d j) ∧ d j ≤ 99
set_option maxHeartbeats 1000000 in
theorem wl_sd_l (H : wHc h d N σ) {S : Nat} (hS : S < 128) : ∀ t i f o, i + t = N → t < f → wOk d S i o → ∃ o', wOk d S N o' ∧ f_X8_soonestDue_4 f 49 (nI S) (wEn o) (nI i) σ = some (wEn o', σ) := by
  obtain ⟨hN, h10, hj⟩ := H
  intro t
  induction t with
  | zero =>
    intro i f o hi hf ho
    obtain ⟨f, rfl⟩ : ∃ k, f = k + 1 := ⟨f - 1, by omega⟩
    obtain rfl : i = N := by omega
    exact ⟨o, ho, by simp -implicitDefEqProofs (disch := omega) only [e_X8_soonestDue_4, e_X8_soonestDue_4__1, e_X8_soonestDue_4__2, h10, wx_bd, wx_let, wx_st, wx_lit, wx_ga, wx_sa, pk_mul, nI_add, wx_le, wx_lt, wx_eq, wx_en, wx_ne', wx_nn, wx_ltn, wx_len, wx_nlt, wx_nle, wx_bz0, wx_bz1, if_pos, if_neg, wx_ite, Nat.reduceEqDiff, eq_self, if_true, if_false, not_true_eq_false, not_false_eq_true]⟩
  | succ t ih =>
    intro i f o hi hf ho
    obtain ⟨f, rfl⟩ : ∃ k, f = k + 1 := ⟨f - 1, by omega⟩
    have bt := wx_bit (show S < 2147483648 by omega) (show i < 31 by omega)
    obtain ⟨-, -, d1, d2⟩ := hj i (by omega)
    have h01 : ¬ nI 1 = nI 0 := by decide
    by_cases c : S.testBit i = true
    · rw [if_pos c] at bt
      obtain ⟨o', g1, g2⟩ := ih (i + 1) f o (by omega) (by omega) (by
        cases o with
        | none =>
          intro j hj
          by_cases e : j = i
          · subst e; exact c
          · exact ho j (by omega)
        | some e =>
          refine ⟨by have := ho.1; omega, ho.2.1, fun j hj hs => ?_⟩
          by_cases ej : j = i
          · subst ej; rw [c] at hs; cases hs
          · exact ho.2.2 j (by omega) hs)
      exact ⟨o', g1, by simp -implicitDefEqProofs (disch := omega) only [e_X8_soonestDue_4, e_X8_soonestDue_4__1, e_X8_soonestDue_4__2, e_X8_soonestDue_42, e_X8_soonestDue_42__1, h10, bt, h01, wx_bd, wx_let, wx_st, wx_lit, wx_ga, wx_sa, pk_mul, nI_add, wx_le, wx_lt, wx_eq, wx_en, wx_ne', wx_nn, wx_ltn, wx_len, wx_nlt, wx_nle, wx_bz0, wx_bz1, if_pos, if_neg, wx_ite, Nat.reduceEqDiff, eq_self, if_true, if_false, not_true_eq_false, not_false_eq_true]; exact g2⟩
    · rw [if_neg c] at bt
      have c' : S.testBit i = false := by simpa using c
      cases o with
      | none =>
        obtain ⟨o', g1, g2⟩ := ih (i + 1) f (some i) (by omega) (by omega) (by
          refine ⟨by omega, c', fun j hj hs => ?_⟩
          by_cases ej : j = i
          · subst ej; exact Nat.le_refl _
          · rw [ho j (by omega)] at hs; cases hs)
        exact ⟨o', g1, by simp -implicitDefEqProofs (disch := omega) only [e_X8_soonestDue_4, e_X8_soonestDue_4__1, e_X8_soonestDue_4__2, e_X8_soonestDue_40, e_X8_soonestDue_42, e_X8_soonestDue_42__1, h10, bt, wEn, wx_bd, wx_let, wx_st, wx_lit, wx_ga, wx_sa, pk_mul, nI_add, wx_le, wx_lt, wx_eq, wx_en, wx_ne', wx_nn, wx_ltn, wx_len, wx_nlt, wx_nle, wx_bz0, wx_bz1, if_pos, if_neg, wx_ite, Nat.reduceEqDiff, eq_self, if_true, if_false, not_true_eq_false, not_false_eq_true]; exact g2⟩
      | some e =>
        obtain ⟨o1, o2, o3⟩ := ho
        obtain ⟨-, -, d3, d4⟩ := hj e (by omega)
        by_cases q : d e ≤ d i
        · obtain ⟨o', g1, g2⟩ := ih (i + 1) f (some e) (by omega) (by omega) (by
            refine ⟨by omega, o2, fun j hj hs => ?_⟩
            by_cases ej : j = i
            · subst ej; exact q
            · exact o3 j (by omega) hs)
          exact ⟨o', g1, by simp -implicitDefEqProofs (disch := omega) only [e_X8_soonestDue_4, e_X8_soonestDue_4__1, e_X8_soonestDue_4__2, e_X8_soonestDue_42, e_X8_soonestDue_42__1, h10, bt, wEn, d1, d3, wx_bd, wx_let, wx_st, wx_lit, wx_ga, wx_sa, pk_mul, nI_add, wx_le, wx_lt, wx_eq, wx_en, wx_ne', wx_nn, wx_ltn, wx_len, wx_nlt, wx_nle, wx_bz0, wx_bz1, if_pos, if_neg, wx_ite, Nat.reduceEqDiff, eq_self, if_true, if_false, not_true_eq_false, not_false_eq_true]; exact g2⟩
        · obtain ⟨o', g1, g2⟩ := ih (i + 1) f (some i) (by omega) (by omega) (by
            refine ⟨by omega, c', fun j hj hs => ?_⟩
            by_cases ej : j = i
            · subst ej; exact Nat.le_refl _
            · have := o3 j (by omega) hs; omega)
          exact ⟨o', g1, by simp -implicitDefEqProofs (disch := omega) only [e_X8_soonestDue_4, e_X8_soonestDue_4__1, e_X8_soonestDue_4__2, e_X8_soonestDue_40, e_X8_soonestDue_42, e_X8_soonestDue_42__1, h10, bt, wEn, d1, d3, wx_bd, wx_let, wx_st, wx_lit, wx_ga, wx_sa, pk_mul, nI_add, wx_le, wx_lt, wx_eq, wx_en, wx_ne', wx_nn, wx_ltn, wx_len, wx_nlt, wx_nle, wx_bz0, wx_bz1, if_pos, if_neg, wx_ite, Nat.reduceEqDiff, eq_self, if_true, if_false, not_true_eq_false, not_false_eq_true]; exact g2⟩
set_option maxHeartbeats 1000000 in
theorem wl_sd (H : wHc h d N σ) {S : Nat} (hS : S < 128) : ∃ o, wOk d S N o ∧ f_X8_soonestDue 49 (nI S) σ = some (wEn o, σ) := by
  obtain ⟨o, a, b⟩ := wl_sd_l H hS N 0 wg_N none (by omega) (by have := H.1; rw [wx_N]; omega) (fun j hj => by omega)
  exact ⟨o, a, by rw [e_X8_soonestDue]; exact b⟩
set_option maxHeartbeats 1000000 in
theorem wx_or128 {S e : Nat} (hS : S < 128) (he : e < 7) : S ||| 2 ^ e < 128 := by
  have : 2 ^ e < 2 ^ 7 := Nat.pow_lt_pow_right (by omega) he
  exact Nat.or_lt_two_pow (n := 7) hS this
set_option maxHeartbeats 1000000 in
theorem wHs_up {S e : Nat} (he : e < N) (hS : S.testBit e = false) : wHs (fun j => (S ||| 2 ^ e).testBit j) h N = wHs (fun j => S.testBit j) h N + h e := by
  rw [wHs_set (p := fun j => S.testBit j) (i := e) hS (fun j => fb_bit_set S e j), if_pos he]
set_option maxHeartbeats 1000000 in
theorem wl_lat (H : wHc h d N σ) : ∀ c S late r f, wh_n (fun j => !S.testBit j) N = c → r + c ≤ N → c < f → S < 128 → late ≤ 1000 → ∃ G, G ≤ 1000 ∧ f_X8_lateness_11 f 49 (nI late) (nI S) (nI (wHs (fun j => S.testBit j) h N)) (nI r) σ = some (nI G, σ) ∧ ∀ x, x ≤ 1000 → (G ≤ x ↔ late ≤ x ∧ wHP h d N S x) := by
  obtain ⟨hN, h10, hj⟩ := id H
  intro c
  induction c with
  | zero =>
    intro S late r f hc hr hf hS hl
    obtain ⟨f, rfl⟩ : ∃ k, f = k + 1 := ⟨f - 1, by omega⟩
    have full := wHn_0 hc
    refine ⟨late, hl, ?_, fun x _ => ⟨fun q => ⟨q, wHP_full full⟩, fun q => q.1⟩⟩
    by_cases q : N ≤ r
    · simp -implicitDefEqProofs (disch := omega) only [e_X8_lateness_11, e_X8_lateness_11__1, e_X8_lateness_11__2, e_X8_lateness_11__3, e_X8_lateness_11__4, e_X8_lateness_11__5, e_X8_lateness_11__6, e_X8_lateness_11__7, h10, wx_bd, wx_let, wx_st, wx_lit, wx_ga, wx_sa, pk_mul, nI_add, wx_le, wx_lt, wx_eq, wx_en, wx_ne', wx_nn, wx_ltn, wx_len, wx_nlt, wx_nle, wx_bz0, wx_bz1, if_pos, if_neg, wx_ite, Nat.reduceEqDiff, eq_self, if_true, if_false, not_true_eq_false, not_false_eq_true]
    · obtain ⟨o, o1, o2⟩ := wl_sd H hS
      cases o with
      | none =>
        simp only [wEn] at o2
        simp -implicitDefEqProofs (disch := omega) only [e_X8_lateness_11, e_X8_lateness_11__1, e_X8_lateness_11__2, e_X8_lateness_11__3, e_X8_lateness_11__4, e_X8_lateness_11__5, e_X8_lateness_11__6, e_X8_lateness_11__7, h10, o2, wx_bd, wx_let, wx_st, wx_lit, wx_ga, wx_sa, pk_mul, nI_add, wx_le, wx_lt, wx_eq, wx_en, wx_ne', wx_nn, wx_ltn, wx_len, wx_nlt, wx_nle, wx_bz0, wx_bz1, if_pos, if_neg, wx_ite, Nat.reduceEqDiff, eq_self, if_true, if_false, not_true_eq_false, not_false_eq_true]
      | some e =>
        have := full e o1.1
        rw [o1.2.1] at this
        cases this
  | succ c ih =>
    intro S late r f hc hr hf hS hl
    obtain ⟨f, rfl⟩ : ∃ k, f = k + 1 := ⟨f - 1, by omega⟩
    obtain ⟨o, o1, o2⟩ := wl_sd H hS
    cases o with
    | none =>
      have : wh_n (fun j => !S.testBit j) N = 0 := wh_n_0 (fun i hi => by rw [o1 i hi]; rfl)
      omega
    | some e =>
      obtain ⟨e1, e2, e3⟩ := o1
      simp only [wEn] at o2
      have cs := wHn_set e1 e2
      have up := wHs_up (h := h) e1 e2
      have bd := wHs_bd (p := fun j => (S ||| 2 ^ e).testBit j) (h := h) (B := 24) (k := N) (fun j q => (hj j q).2.1)
      obtain ⟨a1, a2, a3, a4⟩ := hj e e1
      have sh := wx_shl8 e (by omega)
      obtain ⟨G, g1, g2, g3⟩ := ih (S ||| 2 ^ e) (max late (wHs (fun j => S.testBit j) h N + h e - d e)) (r + 1) f (by omega) (by omega) (by omega) (wx_or128 hS (by omega)) (by omega)
      have mx := wl_mxs (show late < 100000 by omega) (show wHs (fun j => S.testBit j) h N + h e < 100000 by omega) (show d e < 100000 by omega) σ
      refine ⟨G, g1, ?_, fun x hx => (g3 x hx).trans ⟨fun ⟨p, q⟩ => ⟨by omega, wHP_in e1 e2 (by omega) q⟩, fun ⟨p, q⟩ => ?_⟩⟩
      · rw [up] at g2
        simp -implicitDefEqProofs (disch := omega) only [e_X8_lateness_11, e_X8_lateness_11__1, e_X8_lateness_11__2, e_X8_lateness_11__3, e_X8_lateness_11__4, e_X8_lateness_11__5, e_X8_lateness_11__6, e_X8_lateness_11__7, h10, o2, a1, a3, sh, fa_or, mx, wx_bd, wx_let, wx_st, wx_lit, wx_ga, wx_sa, pk_mul, nI_add, wx_le, wx_lt, wx_eq, wx_en, wx_ne', wx_nn, wx_ltn, wx_len, wx_nlt, wx_nle, wx_bz0, wx_bz1, if_pos, if_neg, wx_ite, Nat.reduceEqDiff, eq_self, if_true, if_false, not_true_eq_false, not_false_eq_true]
        exact g2
      · obtain ⟨q1, q2⟩ := wHP_out e1 e2 e3 q
        exact ⟨by omega, q2⟩
set_option maxHeartbeats 1000000 in
theorem wl_lateness (H : wHc h d N σ) {S : Nat} (hS : S < 128) : ∃ G, G ≤ 1000 ∧ f_X8_lateness 49 (nI S) (nI (wHs (fun j => S.testBit j) h N)) σ = some (nI G, σ) ∧ ∀ x, x ≤ 1000 → (G ≤ x ↔ wHP h d N S x) := by
  have hN := H.1
  have := wh_n_le (fun j => !S.testBit j) N
  obtain ⟨G, g1, g2, g3⟩ := wl_lat H _ S 0 0 wg_N rfl (by omega) (by rw [wx_N]; omega) hS (by omega)
  exact ⟨G, g1, by rw [e_X8_lateness]; exact g2, fun x hx => (g3 x hx).trans ⟨fun q => q.2, fun q => ⟨by omega, q⟩⟩⟩
end HC

/-! what THE LAW tells, on both sides -/
set_option maxHeartbeats 1000000 in
theorem wo_e_cg {F F' : Nat → Int32} (hF : ∀ j, j < 10 → F j = F' j) : ∀ (cs : List (Nat × Int32)) (st : List Int32) (ts ts' : List Bool), wo_t cs ts = some ts' → ts.length = st.length → wo_e F cs st = wo_e F' cs st
  | [], st, ts, ts', ht, hl => rfl
  | (k, v) :: cs, st, ts, ts', ht, hl => by
    have hk := wo_t_k ht
    rcases wo_kinds hk with rfl | rfl | rfl | rfl | rfl | rfl | rfl | rfl | rfl | rfl | rfl | rfl
    · obtain ⟨g1, g2⟩ := wo_t_0 ht
      exact wo_e_cg hF cs (v :: st) _ _ g2 (by simp [hl])
    · obtain ⟨g1, ⟨j, hj, rfl⟩, g2⟩ := wo_t_1 ht
      rw [wo_e, wo_e, nI_clamp (by omega), hF j hj]
      exact wo_e_cg hF cs (F' j :: st) _ _ g2 (by simp [hl])
    · obtain ⟨b, ts0, rfl, g1, g2⟩ := wo_t_5 ht
      match st, hl with
      | x :: st0, hl =>
        simp only [List.length_cons, Nat.add_right_cancel_iff] at hl
        exact wo_e_cg hF cs (x / v :: st0) _ _ g2 (by simp [hl])
    · obtain ⟨ts0, rfl, g2⟩ := wo_t_9 ht
      match st, hl with
      | x :: st0, hl =>
        simp only [List.length_cons, Nat.add_right_cancel_iff] at hl
        exact wo_e_cg hF cs ((nI 1 - x) :: st0) _ _ g2 (by simp [hl])
    · obtain ⟨b, a, ts0, rfl, g2⟩ := wo_t_2 ht
      match st, hl with
      | y :: x :: st0, hl =>
        simp only [List.length_cons, Nat.add_right_cancel_iff] at hl
        exact wo_e_cg hF cs (wo_2 2 x y :: st0) _ _ g2 (by simp [hl])
    · obtain ⟨b, a, ts0, rfl, g2⟩ := wo_t_3 ht
      match st, hl with
      | y :: x :: st0, hl =>
        simp only [List.length_cons, Nat.add_right_cancel_iff] at hl
        exact wo_e_cg hF cs (wo_2 3 x y :: st0) _ _ g2 (by simp [hl])
    · obtain ⟨b, a, ts0, rfl, g2⟩ := wo_t_4 ht
      match st, hl with
      | y :: x :: st0, hl =>
        simp only [List.length_cons, Nat.add_right_cancel_iff] at hl
        exact wo_e_cg hF cs (wo_2 4 x y :: st0) _ _ g2 (by simp [hl])
    · obtain ⟨b, a, ts0, rfl, g2⟩ := wo_t_6 ht
      match st, hl with
      | y :: x :: st0, hl =>
        simp only [List.length_cons, Nat.add_right_cancel_iff] at hl
        exact wo_e_cg hF cs (wo_2 6 x y :: st0) _ _ g2 (by simp [hl])
    · obtain ⟨b, a, ts0, rfl, g2⟩ := wo_t_7 ht
      match st, hl with
      | y :: x :: st0, hl =>
        simp only [List.length_cons, Nat.add_right_cancel_iff] at hl
        exact wo_e_cg hF cs (wo_2 7 x y :: st0) _ _ g2 (by simp [hl])
    · obtain ⟨b, a, ts0, rfl, g2⟩ := wo_t_8 ht
      match st, hl with
      | y :: x :: st0, hl =>
        simp only [List.length_cons, Nat.add_right_cancel_iff] at hl
        exact wo_e_cg hF cs (wo_2 8 x y :: st0) _ _ g2 (by simp [hl])
    · obtain ⟨b, a, ts0, rfl, g2, -, -⟩ := wo_t_10 ht
      match st, hl with
      | y :: x :: st0, hl =>
        simp only [List.length_cons, Nat.add_right_cancel_iff] at hl
        exact wo_e_cg hF cs (wo_2 10 x y :: st0) _ _ g2 (by simp [hl])
    · obtain ⟨b, a, ts0, rfl, g2, -, -⟩ := wo_t_11 ht
      match st, hl with
      | y :: x :: st0, hl =>
        simp only [List.length_cons, Nat.add_right_cancel_iff] at hl
        exact wo_e_cg hF cs (wo_2 11 x y :: st0) _ _ g2 (by simp [hl])
set_option maxHeartbeats 1000000 in
theorem wo_l_0 : ∀ {cs : List (Nat × Int32)}, wo_l cs = 0 → cs = []
  | [], _ => rfl
  | (k, v) :: cs, h => by
    simp only [wo_l] at h
    split at h <;> omega
set_option maxHeartbeats 1000000 in
/-- one code on both sides -/
theorem wo_both {σ τ : wg_M} {cs : List (Nat × Int32)} {p q : Nat} {t : Bool} (hc : wo_C (σ 27) (σ 28) p cs) (hp : p + cs.length ≤ 400) (hm : wo_M (τ 16) (τ 17) q cs) (hq : q + wo_l cs ≤ 400) (ht : wo_t cs [] = some [t]) (hF : ∀ j, j < 10 → σ 32 j = τ 22 j) : ∃ r σ' τ', f_X3_run 26 (nI p) (nI (p + cs.length)) σ = some (r, σ') ∧ f_X12_runs 0 (nI 0) (nI q) (nI (q + wo_l cs)) τ = some (r, τ') ∧ (∀ a, a ≠ 33 → σ' a = σ a) ∧ ∀ a, a ≠ 23 → τ' a = τ a := by
  obtain ⟨σ', a1, a2, a3, a4⟩ := wo_runC cs p wg_N [] [] [t] σ hc hp ht rfl (by simp) trivial (by rw [wx_N]; omega)
  obtain ⟨τ', b1, b2, b3, b4⟩ := wo_runM cs q wg_N [] [] [t] τ hm hq ht trivial (by simp) trivial (by rw [wx_N]; omega)
  have e := wo_e_cg hF cs [] [] [t] ht rfl
  refine ⟨σ' 33 0, σ', τ', ?_, ?_, a2, b2⟩
  · rw [e_X3_run]; exact a1
  · simp -implicitDefEqProofs (disch := omega) only [e_X12_runs, e_X12_runs__1, wx_let, wx_lit, pk_mul, nI_add, Nat.mul_zero, Nat.zero_add]
    rw [show σ' 33 0 = τ' 23 0 from ?_]
    · exact b1
    · rw [e] at a3 a4
      match he : wo_e (τ 22) cs [], a4 with
      | [x], _ =>
        rw [he] at a3 b3
        exact a3.1.trans b3.1.symm
/-- the data of THE LAW, line by line -/
def wLd (n : Nat) (ct : Nat → Nat) (c1 c2 : Nat → List (Nat × Int32)) (σ τ : wg_M) : Prop := σ 26 6 = nI n ∧ τ 11 0 = nI n ∧ (∀ l, l < n → wLl σ 0 τ (if l = 0 then 0 else ct (l - 1)) l (c1 l) (c2 l) ∧ ct l = (if l = 0 then 0 else ct (l - 1)) + (c1 l).length + (c2 l).length) ∧ ∀ j, j < 10 → σ 32 j = τ 22 j
set_option maxHeartbeats 1000000 in
theorem wLd_fr {n : Nat} {ct : Nat → Nat} {c1 c2 : Nat → List (Nat × Int32)} {σ τ σ' τ' : wg_M} (hn : n ≤ 16) (h1 : ∀ a, a ≠ 33 → σ' a = σ a) (h2 : ∀ a, a ≠ 23 → τ' a = τ a) (h : wLd n ct c1 c2 σ τ) : wLd n ct c1 c2 σ' τ' := by
  obtain ⟨a1, a2, a3, a4⟩ := h
  refine ⟨by rw [h1 26 (by omega)]; exact a1, by rw [h2 11 (by omega)]; exact a2, fun l hl => ⟨wLl_fr (by omega) (fun a q1 q2 => h1 a (by omega)) (fun a i _ q => by rw [h2 a (by omega)]) (a3 l hl).1, (a3 l hl).2⟩, fun j hj => ?_⟩
  rw [h1 32 (by omega), h2 22 (by omega)]
  exact a4 j hj
set_option maxHeartbeats 1000000 in
theorem wl_tell_l {n : Nat} {ct : Nat → Nat} {c1 c2 : Nat → List (Nat × Int32)} (hn : n ≤ 16) (q : Nat) (hq : q < 3) (v : Int32) : ∀ d i fc fm σ τ, i + d = n → d < fc → d < fm → wLd n ct c1 c2 σ τ → ∃ r σ' τ', f_X3_tell_5 fc 26 (nI (266 + q)) v (nI (if i = 0 then 0 else ct (i - 1))) (nI i) σ = some (r, σ') ∧ (∀ a, a ≠ 33 → σ' a = σ a) ∧ (∀ a, a ≠ 23 → τ' a = τ a) ∧ ((f_X12_lineOf_2 fm 0 (nI q) (nI i) τ = some (-nI 1, τ') ∧ r = v) ∨ ∃ l mf mw τ1, l < n ∧ f_X12_lineOf_2 fm 0 (nI q) (nI i) τ = some (nI l, τ1) ∧ τ1 13 l = nI mf ∧ τ1 14 l = nI mw ∧ f_X12_runs 0 (nI 0) (nI mf) (nI mw) τ1 = some (r, τ')) := by
  intro d
  induction d with
  | zero =>
    intro i fc fm σ τ hi hc hm h
    obtain ⟨fc, rfl⟩ : ∃ k, fc = k + 1 := ⟨fc - 1, by omega⟩
    obtain ⟨fm, rfl⟩ : ∃ k, fm = k + 1 := ⟨fm - 1, by omega⟩
    obtain ⟨a1, a2, a3, a4⟩ := h
    refine ⟨v, σ, τ, ?_, fun _ _ => rfl, fun _ _ => rfl, Or.inl ⟨?_, rfl⟩⟩
    · simp -implicitDefEqProofs (disch := omega) only [e_X3_tell_5, e_X3_tell_5__1, e_X3_tell_5__2, e_X3_tell_5__3, e_X3_tell_5__4, e_X3_tell_5__5, e_X3_tell_5__6, a1, wx_bd, wx_let, wx_st, wx_lit, wx_ga, wx_sa, pk_mul, nI_add, wx_le, wx_lt, wx_eq, wx_en, wx_ne', wx_nn, wx_ltn, wx_len, wx_nlt, wx_nle, wx_bz0, wx_bz1, if_pos, if_neg, wx_ite, Nat.reduceEqDiff, eq_self, if_true, if_false, not_true_eq_false, not_false_eq_true]
    · simp -implicitDefEqProofs (disch := omega) only [e_X12_lineOf_2, e_X12_lineOf_2__1, e_X12_lineOf_2__2, e_X12_lineOf_2__3, e_X12_lineOf_2__4, e_X12_lineOf_2__5, e_X12_lineOf_2__6, e_X12_lineOf_2__7, a2, wx_bd, wx_let, wx_st, wx_lit, wx_ga, wx_sa, pk_mul, nI_add, wx_le, wx_lt, wx_eq, wx_en, wx_ne', wx_nn, wx_ltn, wx_len, wx_nlt, wx_nle, wx_bz0, wx_bz1, if_pos, if_neg, wx_ite, Nat.reduceEqDiff, eq_self, if_true, if_false, not_true_eq_false, not_false_eq_true]
  | succ d ih =>
    intro i fc fm σ τ hi hc hm h
    obtain ⟨fc, rfl⟩ : ∃ k, fc = k + 1 := ⟨fc - 1, by omega⟩
    obtain ⟨fm, rfl⟩ : ∃ k, fm = k + 1 := ⟨fm - 1, by omega⟩
    have h' := h
    obtain ⟨a1, a2, a3, a4⟩ := h
    obtain ⟨hl, hct⟩ := a3 i (by omega)
    generalize hcf : (if i = 0 then 0 else ct (i - 1)) = cf at hl hct ⊢
    obtain ⟨⟨k, k1, k2, k3⟩, l1, l2, l3, ⟨mf, m1, m2, m3, m4, m5, m6⟩, l4, l5, l6, l7⟩ := hl
    have k2 : σ 29 i = nI (266 + k) := k2
    have l1 : σ 30 i = nI (cf + (c1 i).length) := l1
    have l2 : σ 31 i = nI (cf + (c1 i).length + (c2 i).length) := l2
    have nxt : ∀ σ1 τ1, (∀ a, a ≠ 33 → σ1 a = σ a) → (∀ a, a ≠ 23 → τ1 a = τ a) → ∃ r σ' τ', f_X3_tell_5 fc 26 (nI (266 + q)) v (nI (cf + (c1 i).length + (c2 i).length)) (nI (i + 1)) σ1 = some (r, σ') ∧ (∀ a, a ≠ 33 → σ' a = σ a) ∧ (∀ a, a ≠ 23 → τ' a = τ a) ∧ ((f_X12_lineOf_2 fm 0 (nI q) (nI (i + 1)) τ1 = some (-nI 1, τ') ∧ r = v) ∨ ∃ l mf mw τ2, l < n ∧ f_X12_lineOf_2 fm 0 (nI q) (nI (i + 1)) τ1 = some (nI l, τ2) ∧ τ2 13 l = nI mf ∧ τ2 14 l = nI mw ∧ f_X12_runs 0 (nI 0) (nI mf) (nI mw) τ2 = some (r, τ')) := by
      intro σ1 τ1 f1 f2
      obtain ⟨r, σ', τ', r1, r2, r3, r4⟩ := ih (i + 1) fc fm σ1 τ1 (by omega) (by omega) (by omega) (wLd_fr hn f1 f2 h')
      rw [if_neg (by omega), show i + 1 - 1 = i by omega, hct] at r1
      exact ⟨r, σ', τ', r1, fun a ha => (r2 a ha).trans (f1 a ha), fun a ha => (r3 a ha).trans (f2 a ha), r4⟩
    by_cases ck : k = q
    · subst ck
      obtain ⟨r1, σ1, τ1, u1, u2, u3, u4⟩ := wo_both (t := false) l4 (by omega) m5 (by omega) l6 a4
      by_cases e2 : c2 i = []
      · refine ⟨r1, σ1, τ1, ?_, u3, u4, Or.inr ⟨i, mf, mf + wo_l (c1 i), τ, by omega, ?_, m1, m2, u2⟩⟩
        · simp only [e2, List.length_nil, Nat.add_zero] at l2
          simp -implicitDefEqProofs (disch := omega) only [e_X3_tell_5, e_X3_tell_5__1, e_X3_tell_5__2, e_X3_tell_5__3, e_X3_tell_5__4, e_X3_tell_5__5, e_X3_tell_5__6, e_X3_tell_63, e_X3_tell_68, e_X3_tell_68__1, e_X3_tell_68__2, e_X3_tell_68__3, e_X3_tell_68__4, a1, k2, l1, l2, u1, wx_bd, wx_let, wx_st, wx_lit, wx_ga, wx_sa, pk_mul, nI_add, wx_le, wx_lt, wx_eq, wx_en, wx_ne', wx_nn, wx_ltn, wx_len, wx_nlt, wx_nle, wx_bz0, wx_bz1, if_pos, if_neg, wx_ite, Nat.reduceEqDiff, eq_self, if_true, if_false, not_true_eq_false, not_false_eq_true]
        · simp only [e2, wo_l, Nat.add_zero] at m3
          simp -implicitDefEqProofs (disch := omega) only [e_X12_lineOf_2, e_X12_lineOf_2__1, e_X12_lineOf_2__2, e_X12_lineOf_2__3, e_X12_lineOf_2__4, e_X12_lineOf_2__5, e_X12_lineOf_2__6, e_X12_lineOf_2__7, a2, k3, m2, m3, wx_bd, wx_let, wx_st, wx_lit, wx_ga, wx_sa, pk_mul, nI_add, wx_le, wx_lt, wx_eq, wx_en, wx_ne', wx_nn, wx_ltn, wx_len, wx_nlt, wx_nle, wx_bz0, wx_bz1, if_pos, if_neg, wx_ite, Nat.reduceEqDiff, eq_self, if_true, if_false, not_true_eq_false, not_false_eq_true]
      · have l7 : wo_t (c2 i) [] = some [true] := by
          rcases l7 with l7 | l7
          · exact absurd l7 e2
          · exact l7
        obtain ⟨r2, σ2, τ2, v1, v2, v3, v4⟩ := wo_both (t := true) l5 (by omega) m6 (by omega) l7 a4
        have n1 : 0 < (c2 i).length := List.length_pos_iff.mpr e2
        have n2 : 0 < wo_l (c2 i) := by
          rcases Nat.eq_zero_or_pos (wo_l (c2 i)) with z | z
          · exact absurd (wo_l_0 z) e2
          · exact z
        by_cases cz : r2 = nI 0
        · obtain ⟨r, σ', τ', w1, w2, w3, w4⟩ := nxt σ2 τ2 v3 v4
          refine ⟨r, σ', τ', ?_, w2, w3, ?_⟩
          · have f31 : σ2 31 = σ 31 := v3 31 (by omega)
            simp -implicitDefEqProofs (disch := omega) only [e_X3_tell_5, e_X3_tell_5__1, e_X3_tell_5__2, e_X3_tell_5__3, e_X3_tell_5__4, e_X3_tell_5__5, e_X3_tell_5__6, e_X3_tell_67, e_X3_tell_68, e_X3_tell_68__1, e_X3_tell_68__2, e_X3_tell_68__3, e_X3_tell_68__4, a1, k2, l1, l2, v1, cz, f31, wx_bd, wx_let, wx_st, wx_lit, wx_ga, wx_sa, pk_mul, nI_add, wx_le, wx_lt, wx_eq, wx_en, wx_ne', wx_nn, wx_ltn, wx_len, wx_nlt, wx_nle, wx_bz0, wx_bz1, if_pos, if_neg, wx_ite, Nat.reduceEqDiff, eq_self, if_true, if_false, not_true_eq_false, not_false_eq_true]
            exact w1
          · have : f_X12_lineOf_2 (fm + 1) 0 (nI k) (nI i) τ = f_X12_lineOf_2 fm 0 (nI k) (nI (i + 1)) τ2 := by
              simp -implicitDefEqProofs (disch := omega) only [e_X12_lineOf_2, e_X12_lineOf_2__1, e_X12_lineOf_2__2, e_X12_lineOf_2__3, e_X12_lineOf_2__4, e_X12_lineOf_2__5, e_X12_lineOf_2__6, e_X12_lineOf_2__7, e_X12_lineOf_59, e_X12_lineOf_59__1, a2, k3, m2, m3, v2, cz, wx_bd, wx_let, wx_st, wx_lit, wx_ga, wx_sa, pk_mul, nI_add, wx_le, wx_lt, wx_eq, wx_en, wx_ne', wx_nn, wx_ltn, wx_len, wx_nlt, wx_nle, wx_bz0, wx_bz1, if_pos, if_neg, wx_ite, Nat.reduceEqDiff, eq_self, if_true, if_false, not_true_eq_false, not_false_eq_true]
            rw [this]; exact w4
        · obtain ⟨r3, σ3, τ3, z1, z2, z3, z4⟩ := wo_both (σ := σ2) (τ := τ2) (t := false) (cs := c1 i) (p := cf) (q := mf) (by rw [v3 27 (by omega), v3 28 (by omega)]; exact l4) (by omega) (by rw [v4 16 (by omega), v4 17 (by omega)]; exact m5) (by omega) l6 (by rw [v3 32 (by omega), v4 22 (by omega)]; exact a4)
          refine ⟨r3, σ3, τ3, ?_, fun a ha => (z3 a ha).trans (v3 a ha), fun a ha => (z4 a ha).trans (v4 a ha), Or.inr ⟨i, mf, mf + wo_l (c1 i), τ2, by omega, ?_, by rw [v4 13 (by omega)]; exact m1, by rw [v4 14 (by omega)]; exact m2, z2⟩⟩
          · have f30 : σ2 30 = σ 30 := v3 30 (by omega)
            simp -implicitDefEqProofs (disch := omega) only [e_X3_tell_5, e_X3_tell_5__1, e_X3_tell_5__2, e_X3_tell_5__3, e_X3_tell_5__4, e_X3_tell_5__5, e_X3_tell_5__6, e_X3_tell_63, e_X3_tell_68, e_X3_tell_68__1, e_X3_tell_68__2, e_X3_tell_68__3, e_X3_tell_68__4, a1, k2, l1, l2, v1, cz, f30, z1, wx_bd, wx_let, wx_st, wx_lit, wx_ga, wx_sa, pk_mul, nI_add, wx_le, wx_lt, wx_eq, wx_en, wx_ne', wx_nn, wx_ltn, wx_len, wx_nlt, wx_nle, wx_bz0, wx_bz1, if_pos, if_neg, wx_ite, Nat.reduceEqDiff, eq_self, if_true, if_false, not_true_eq_false, not_false_eq_true]
          · simp -implicitDefEqProofs (disch := omega) only [e_X12_lineOf_2, e_X12_lineOf_2__1, e_X12_lineOf_2__2, e_X12_lineOf_2__3, e_X12_lineOf_2__4, e_X12_lineOf_2__5, e_X12_lineOf_2__6, e_X12_lineOf_2__7, e_X12_lineOf_59, e_X12_lineOf_59__1, a2, k3, m2, m3, v2, cz, wx_bd, wx_let, wx_st, wx_lit, wx_ga, wx_sa, pk_mul, nI_add, wx_le, wx_lt, wx_eq, wx_en, wx_ne', wx_nn, wx_ltn, wx_len, wx_nlt, wx_nle, wx_bz0, wx_bz1, if_pos, if_neg, wx_ite, Nat.reduceEqDiff, eq_self, if_true, if_false, not_true_eq_false, not_false_eq_true]
    · obtain ⟨r, σ', τ', w1, w2, w3, w4⟩ := nxt σ τ (fun _ _ => rfl) (fun _ _ => rfl)
      refine ⟨r, σ', τ', ?_, w2, w3, ?_⟩
      · simp -implicitDefEqProofs (disch := omega) only [e_X3_tell_5, e_X3_tell_5__1, e_X3_tell_5__2, e_X3_tell_5__3, e_X3_tell_5__4, e_X3_tell_5__5, e_X3_tell_5__6, e_X3_tell_67, e_X3_tell_68, e_X3_tell_68__1, e_X3_tell_68__2, e_X3_tell_68__3, e_X3_tell_68__4, a1, k2, l2, wx_bd, wx_let, wx_st, wx_lit, wx_ga, wx_sa, pk_mul, nI_add, wx_le, wx_lt, wx_eq, wx_en, wx_ne', wx_nn, wx_ltn, wx_len, wx_nlt, wx_nle, wx_bz0, wx_bz1, if_pos, if_neg, wx_ite, Nat.reduceEqDiff, eq_self, if_true, if_false, not_true_eq_false, not_false_eq_true]
        exact w1
      · have : f_X12_lineOf_2 (fm + 1) 0 (nI q) (nI i) τ = f_X12_lineOf_2 fm 0 (nI q) (nI (i + 1)) τ := by
          simp -implicitDefEqProofs (disch := omega) only [e_X12_lineOf_2, e_X12_lineOf_2__1, e_X12_lineOf_2__2, e_X12_lineOf_2__3, e_X12_lineOf_2__4, e_X12_lineOf_2__5, e_X12_lineOf_2__6, e_X12_lineOf_2__7, e_X12_lineOf_59, e_X12_lineOf_59__1, a2, k3, wx_bd, wx_let, wx_st, wx_lit, wx_ga, wx_sa, pk_mul, nI_add, wx_le, wx_lt, wx_eq, wx_en, wx_ne', wx_nn, wx_ltn, wx_len, wx_nlt, wx_nle, wx_bz0, wx_bz1, if_pos, if_neg, wx_ite, Nat.reduceEqDiff, eq_self, if_true, if_false, not_true_eq_false, not_false_eq_true]
        rw [this]; exact w4
/-- the answer of held, on both sides -/
def wh_h (x l m : Int32) : Int32 := if l ≤ x then (if x ≤ m then x else m) else l
set_option maxHeartbeats 1000000 in
theorem wh_hM (x l m : Int32) (τ : wg_M) : f_X12_held 0 x l m τ = some (wh_h x l m, τ) := by
  rw [e_X12_held]; unfold wh_h
  split
  · split <;> rfl
  · rfl
set_option maxHeartbeats 1000000 in
theorem wh_hC {x l m : Int32} (h : l ≤ m) (σ : wg_M) : f_X11_held x l m σ = some (wh_h x l m, σ) := by
  simp only [e_X11_held, e_X11_held__1, e_X11_held__2, f_J9_min_7cf53, f_J9_max_7cf53]
  unfold wh_h
  rw [Int32.le_iff_toInt_le] at h
  by_cases c1 : x < m
  · have c1' := c1
    rw [Int32.lt_iff_toInt_lt] at c1'
    simp only [c1, if_true, wx_bd, e_X11_held, e_X11_held__1, e_X11_held__2, e_X11_held__1, e_X11_held__2, f_J9_max_7cf53]
    by_cases c2 : l < x
    · have c2' := c2
      rw [Int32.lt_iff_toInt_lt] at c2'
      rw [if_pos c2, if_pos (by rw [Int32.le_iff_toInt_le]; omega), if_pos (by rw [Int32.le_iff_toInt_le]; omega)]
      rfl
    · rw [if_neg c2]
      rw [Int32.lt_iff_toInt_lt] at c2
      by_cases c3 : l ≤ x
      · rw [if_pos c3, if_pos (by rw [Int32.le_iff_toInt_le]; omega)]
        rw [Int32.le_iff_toInt_le] at c3
        rw [show x = l from Int32.toInt_inj.mp (by omega)]
        rfl
      · rw [if_neg c3]; rfl
  · have c1' := c1
    rw [Int32.lt_iff_toInt_lt] at c1'
    simp only [c1, if_false, wx_bd, e_X11_held, e_X11_held__1, e_X11_held__2, e_X11_held__1, e_X11_held__2, f_J9_max_7cf53]
    have q : l ≤ x := by rw [Int32.le_iff_toInt_le]; omega
    have e3 : (if x ≤ m then x else m) = m := by
      split
      · next c => rw [Int32.le_iff_toInt_le] at c; exact Int32.toInt_inj.mp (by omega)
      · rfl
    simp only [q, if_true, e3]
    by_cases c2 : l < m
    · simp only [c2, if_true, wx_bd, e_X11_held, e_X11_held__1, e_X11_held__2, e_X11_held__1, e_X11_held__2]
    · simp only [c2, if_false, wx_bd, e_X11_held, e_X11_held__1, e_X11_held__2, e_X11_held__1, e_X11_held__2]
      rw [Int32.lt_iff_toInt_lt] at c2
      rw [show m = l from Int32.toInt_inj.mp (by omega)]
set_option maxHeartbeats 1000000 in
theorem wh_h_in {x : Int32} {M : Nat} (hM : M < 2147483648) : ∃ g, g ≤ M ∧ wh_h x (nI 0) (nI M) = nI g := by
  unfold wh_h
  split
  · next c =>
    split
    · next c2 =>
      obtain ⟨j, h1, h2⟩ := wx_in (x := x) (b := M) (by rw [Int32.lt_iff_toInt_lt]; rw [Int32.le_iff_toInt_le] at c; omega) (by rw [Int32.lt_iff_toInt_lt]; rw [Int32.le_iff_toInt_le] at c2; omega) hM
      exact ⟨j, h1, h2⟩
    · exact ⟨M, Nat.le_refl _, rfl⟩
  · exact ⟨0, Nat.zero_le _, rfl⟩
set_option maxHeartbeats 1000000 in
theorem wl_tell {σ τ : wg_M} (h : wLw σ 0 τ) (hF : ∀ j, j < 10 → σ 32 j = τ 22 j) (q : Nat) (hq : q < 3) (v : Int32) {M : Nat} (hM : M < 2147483648) : ∃ r σ' τ', f_X3_tell 26 (nI (266 + q)) v σ = some (r, σ') ∧ f_X12_lawTells 0 (nI q) v (nI M) τ = some (wh_h r (nI 0) (nI M), τ') ∧ (∀ a, a ≠ 33 → σ' a = σ a) ∧ ∀ a, a ≠ 23 → τ' a = τ a := by
  obtain ⟨n, h1, h2, h3, ct, c1, c2, h4⟩ := h
  obtain ⟨r, σ', τ', r1, r2, r3, r4⟩ := wl_tell_l (ct := ct) (c1 := c1) (c2 := c2) h1 q hq v n 0 wg_N wg_N σ τ (by omega) (by rw [wx_N]; omega) (by rw [wx_N]; omega) ⟨h2, h3, h4, hF⟩
  rw [if_pos rfl] at r1
  refine ⟨r, σ', τ', ?_, ?_, r2, r3⟩
  · simp only [e_X3_tell, wx_lit]; exact r1
  · have hl : f_X12_lineOf 0 (nI q) τ = f_X12_lineOf_2 wg_N 0 (nI q) (nI 0) τ := by rw [e_X12_lineOf]; rfl
    rcases r4 with ⟨s1, s2⟩ | ⟨l, mf, mw, τ1, s0, s1, s2, s3, s4⟩
    · rw [s1] at hl
      subst s2
      simp -implicitDefEqProofs (disch := omega) only [e_X12_lawTells, e_X12_lawTells__1, e_X12_lawTells__2, e_X12_lawTells__3, e_X12_lawTells__4, e_X12_lawTells_37, e_X12_lawTells_37__1, hl, wh_hM, wx_bd, wx_let, wx_st, wx_lit, wx_ga, wx_sa, pk_mul, nI_add, wx_le, wx_lt, wx_eq, wx_en, wx_ne', wx_nn, wx_ltn, wx_len, wx_nlt, wx_nle, wx_bz0, wx_bz1, if_pos, if_neg, wx_ite, Nat.reduceEqDiff, eq_self, if_true, if_false, not_true_eq_false, not_false_eq_true]
    · rw [s1] at hl
      simp -implicitDefEqProofs (disch := omega) only [e_X12_lawTells, e_X12_lawTells__1, e_X12_lawTells__2, e_X12_lawTells__3, e_X12_lawTells__4, e_X12_lawTells_37, e_X12_lawTells_37__1, hl, s2, s3, s4, wh_hM, wx_bd, wx_let, wx_st, wx_lit, wx_ga, wx_sa, pk_mul, nI_add, wx_le, wx_lt, wx_eq, wx_en, wx_ne', wx_nn, wx_ltn, wx_len, wx_nlt, wx_nle, wx_bz0, wx_bz1, if_pos, if_neg, wx_ite, Nat.reduceEqDiff, eq_self, if_true, if_false, not_true_eq_false, not_false_eq_true]


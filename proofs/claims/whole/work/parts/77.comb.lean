/-! combed, brushed, worn: one WIG on both sides -/
section CB
variable {th : Bool} {nw nj nc : Nat} {σ τ : wg_M}
set_option maxHeartbeats 1000000 in
theorem wh_ct_n (q : Nat → Bool) : ∀ k, wh_n q k + fb_ct (fun i => !q i) k = k
  | 0 => rfl
  | k + 1 => by
    have ih := wh_ct_n q k
    rw [fb_ct_succ]
    simp only [wh_n]
    cases q k <;> simp <;> omega
set_option maxHeartbeats 1000000 in
/-- COMB: the class notes at the end, the reference first -/
theorem wl_comb (h : wX th nw nj nc σ τ) {w k : Nat} (x : Int32) (hw : w < nw) (hk : τ 1 (67 + w) = nI k) (hk8 : k ≤ 8) : ∃ σ' τ', (∃ v σ1, f_X9_dropCause 2 (nI w) x σ = some (v, σ1) ∧ f_X1_note 279 (nI 4) (nI w) v σ1 = some (nI 0, σ')) ∧ f_X12_combsOut 0 (nI w) x τ = some (nI 0, τ') ∧ wX th nw nj nc σ' τ' ∧ wFr σ σ' τ τ' := by
  obtain ⟨h1, h2, h3, h4, h5⟩ := id h
  have hn8 := h1.1
  have e7 := wb_rules h2 hw
  rw [hk] at e7
  obtain ⟨l, l1, l2⟩ := h2.1.2.2.2.2.2.2
  have e9 := wb_lines h2
  rw [l2] at e9
  obtain ⟨q, hq⟩ : ∃ q : Nat → Bool, q = fun i => decide (τ 1 (75 + 24 * w + 3 * i) = x) := ⟨_, rfl⟩
  obtain ⟨p, hp⟩ : ∃ p : Nat → Bool, p = fun i => !q i := ⟨_, rfl⟩
  have hqp : wh_n q k + fb_ct p k = k := by rw [hp]; exact wh_ct_n q k
  have pc : ∀ i, i < k → p i = decide (¬ σ 8 (w * 8 + i) = x) := fun i hi => by
    rw [hp, hq, wb_cause h2 hw hk hk8 hi]
    simp
  -- the class
  obtain ⟨s1, c1, c2, c3, c4, c5, c6⟩ := wl_combC_l (w := w) (x := x) (σ0 := σ) (by omega) e7 hk8 pc k 0 wg_N σ (by omega) (by rw [wx_N]; omega) (fun _ _ _ _ => rfl) (fun _ _ _ _ => rfl) (fun a j _ hj => by omega)
  -- the reference, after its note
  have rf := wl_rulesFor h1 hw hk hk8 x
  rw [← hq] at rf
  have nm := wl_noteM (a := nI 4) (b := nI w) (c := nI (wh_n q k)) h5 l2 l1
  obtain ⟨X0, F0⟩ := wl_noteB (a := nI 4) (b := nI w) (c := nI (wh_n q k)) h l2 l1
  obtain ⟨t0, ht0⟩ : ∃ t0, t0 = wnM th l (τ 1 0) (nI 4) (nI w) (nI (wh_n q k)) τ := ⟨_, rfl⟩
  obtain ⟨s0, hs0⟩ : ∃ s0, s0 = wnC th l (σ 1 7) (nI 4) (nI w) (nI (wh_n q k)) σ := ⟨_, rfl⟩
  rw [← ht0, ← hs0] at X0 F0
  rw [← ht0] at nm
  have f1 : ∀ y, y ≠ 2 → t0 1 y = τ 1 y := fun y hy => by rw [ht0]; exact wnM_1 hy
  have pm : ∀ i, i < k → p i = decide (¬ t0 1 (75 + 24 * w + 3 * i) = x) := fun i hi => by
    rw [hp, hq, f1 _ (by omega)]
    simp
  have k0 : t0 1 (67 + w) = nI k := by rw [f1 _ (by omega)]; exact hk
  obtain ⟨t1, m1, m2, m3, m4, m5⟩ := wl_combM_l (w := w) (x := x) (τ0 := t0) (by omega) hk8 pm k wg_N t0 (Nat.le_refl _) (by rw [wx_N]; omega) (fun _ _ => rfl) (by rw [k0, Nat.sub_self, Nat.add_zero]) (fun _ _ _ => rfl) (fun _ _ _ _ => rfl) (fun i a _ hi hik => by omega)
  -- the places of what is left
  have hf : ∃ f : Nat → Nat, ∀ y, y < fb_ct p k → f y < k ∧ p (f y) = true ∧ fb_ct p (f y) = y := by
    refine ⟨fun y => if hy : y < fb_ct p k then Classical.choose (fb_ct_kth hy) else 0, fun y hy => ?_⟩
    simp only [hy, dite_true]
    exact Classical.choose_spec (fb_ct_kth hy)
  obtain ⟨f, hf⟩ := hf
  have hcle := fb_ct_le p k
  obtain ⟨σ2, τ2, V, v0, v1, v2, v3, v4, v5, v6, v7⟩ := wl_left (σ := s0) (τ := t0) (σ' := wnC th l (σ 1 7) (nI 4) (nI w) (nI (wh_n q k)) s1) (τ' := t1) X0.2.1 X0.1 hw k0 hk8 (k' := fb_ct p k) (by omega) f (fun y hy => (hf y hy).1)
    (fun a ha => by
      rw [hs0]
      by_cases ca : a ≠ 1 ∧ (a < 21 ∨ 25 < a)
      · rw [wnC_un ca, wnC_un ca]; exact c1 a (by omega) (by omega) (by omega) (by omega)
      · unfold wnC
        split
        · exact c1 a (by omega) (by omega) (by omega) (by omega)
        · have g1 := c1 1 (by omega) (by omega) (by omega) (by omega)
          have g2 := c1 21 (by omega) (by omega) (by omega) (by omega)
          have g3 := c1 22 (by omega) (by omega) (by omega) (by omega)
          have g4 := c1 23 (by omega) (by omega) (by omega) (by omega)
          have g5 := c1 24 (by omega) (by omega) (by omega) (by omega)
          have g6 := c1 25 (by omega) (by omega) (by omega) (by omega)
          rcases (show a = 1 ∨ a = 21 ∨ a = 22 ∨ a = 23 ∨ a = 24 ∨ a = 25 by omega) with rfl | rfl | rfl | rfl | rfl | rfl <;> split <;> simp -implicitDefEqProofs (disch := omega) only [wx_uk, wx_un, pk_us, pk_un, g1, g2, g3, g4, g5, g6])
    (fun v hv => by rw [hs0, wnC_un (by omega), wnC_un (by omega)]; exact c2 v hv)
    (by rw [wnC_un (by omega)]; exact c3)
    (fun a v i ha hv hi => by rw [hs0, wnC_un (by omega), wnC_un (by omega)]; exact c4 a _ ha (by omega))
    (fun a y ha hy => by
      rw [hs0, wnC_un (by omega), wnC_un (by omega)]
      obtain ⟨g1, g2, g3⟩ := hf y hy
      have := c5 a (f y) ha g1 g2
      rw [g3] at this
      exact this)
    m1 m2 m3 (fun y a ha hy => by
      obtain ⟨g1, g2, g3⟩ := hf y hy
      have := m4 (f y) a ha g1 g2
      rw [g3] at this
      exact this)
  have eC : k - fb_ct p k = wh_n q k := by omega
  -- the class's own itch and note
  have itc : f_X9_itchAnew 2 (nI w) s1 = some (nI 0, wg_u s1 5 w V) := by
    have hcs : ∀ i, i < fb_ct p k → ∃ c, c < 8 ∧ s1 8 (w * 8 + i) = nI c := fun i hi => by
      obtain ⟨g1, g2, g3⟩ := hf i hi
      have g4 := c5 8 (f i) (by omega) g1 g2
      rw [g3] at g4
      obtain ⟨u1, -, -, ⟨c, d1, d2⟩, -⟩ := wb_ru h2 hw hk hk8 g1
      exact ⟨c, d1, g4.trans (u1.trans d2)⟩
    have a1 := wl_itchC (σ := s1) (w := w) (k := fb_ct p k) (by omega) c3 (by omega) hcs
    have a2 := wl_itchC (σ := wnC th l (σ 1 7) (nI 4) (nI w) (nI (wh_n q k)) s1) (w := w) (k := fb_ct p k) (by omega) (by rw [wnC_un (by omega)]; exact c3) (by omega) (fun i hi => by rw [wnC_un (by omega)]; exact hcs i hi)
    rw [v2, v0] at a2
    simp only [Option.some.injEq, Prod.mk.injEq, true_and] at a2
    have a3 := congrFun (congrFun a2 5) w
    rw [wx_uk, wx_uk, pk_us, pk_us, wnC_un (by omega), wnC_un (by omega)] at a3
    rw [a1, a3]
  refine ⟨σ2, τ2, ⟨nI (wh_n q k), wg_u s1 5 w V, ?_, ?_⟩, ?_, ?_, ?_⟩
  · have := c6 _ itc
    rw [eC] at this
    simp -implicitDefEqProofs (disch := omega) only [e_X9_dropCause, e_X9_dropCause__1, wx_bd, wx_let, wx_st, wx_lit, wx_ga, wx_sa, pk_mul, nI_add, wx_le, wx_lt, wx_eq, wx_en, wx_ne', wx_nn, wx_ltn, wx_len, wx_nlt, wx_nle, wx_bz0, wx_bz1, if_pos, if_neg, wx_ite, Nat.reduceEqDiff, eq_self, if_true, if_false, not_true_eq_false, not_false_eq_true]
    exact this
  · have t5 : wTh th (wg_u s1 5 w V) τ := ⟨by rw [wx_un (by omega), c1 279 (by omega) (by omega) (by omega) (by omega)]; exact h5.1, h5.2⟩
    have e1 : wg_u s1 5 w V 1 = σ 1 := by rw [wx_un (by omega)]; exact c1 1 (by omega) (by omega) (by omega) (by omega)
    have nc' := wl_noteC (σ := wg_u s1 5 w V) (a := nI 4) (b := nI w) (c := nI (wh_n q k)) t5 (by rw [e1]; exact e9) l1
    rw [nc', e1, wnC_5, v0]
  · have hm5 := m5 _ v3
    have ek : t0 1 (67 + w) - nI 1 = nI k - nI 1 := by rw [k0]
    simp -implicitDefEqProofs (disch := omega) only [e_X12_combsOut, e_X12_combsOut__1, e_X12_combsOut__2, e_X12_combsOut__3, e_X12_combsOut__4, rf, nm, k0, wx_bd, wx_let, wx_st, wx_lit, wx_ga, wx_sa, pk_mul, nI_add, wx_le, wx_lt, wx_eq, wx_en, wx_ne', wx_nn, wx_ltn, wx_len, wx_nlt, wx_nle, wx_bz0, wx_bz1, if_pos, if_neg, wx_ite, Nat.reduceEqDiff, eq_self, if_true, if_false, not_true_eq_false, not_false_eq_true]
    exact hm5
  · exact (wX_g X0 v5 v6 v4).1
  · exact wFr_tr F0 (wX_g X0 v5 v6 v4).2
end CB

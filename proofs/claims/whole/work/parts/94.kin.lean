section KJ
variable {σ τ : wg_M}
set_option maxHeartbeats 1000000 in
theorem wl_stay2 (h : wKn σ 0 τ) {S V : Nat} (hS : S < 256) (hV : V < 256) (hSV : ∀ a, a < 8 → S.testBit a = true → V.testBit a = false) {c0 : Nat} (hc0 : S.testBit c0 = true) (hcl : wCl τ S (some c0)) : ∀ d i n c, i + d = 8 → d < n → c < 8 → S.testBit c = true → f_X7_commonOf_12 n 280 (nI V) (nI c) (nI i) σ = some (-nI 1, σ) := by
  intro d
  induction d with
  | zero =>
    intro i n c hi hn hc hb
    obtain ⟨n, rfl⟩ : ∃ k, n = k + 1 := ⟨n - 1, by omega⟩
    simp -implicitDefEqProofs (disch := omega) only [e_X7_commonOf_12, e_X7_commonOf_12__1, e_X7_commonOf_12__2, wx_bd, wx_let, wx_st, wx_lit, wx_ga, wx_sa, pk_mul, nI_add, wx_le, wx_lt, wx_eq, wx_en, wx_ne', wx_nn, wx_ltn, wx_len, wx_nlt, wx_nle, wx_bz0, wx_bz1, if_pos, if_neg, wx_ite, Nat.reduceEqDiff, eq_self, if_true, if_false, not_true_eq_false, not_false_eq_true]
  | succ d ih =>
    intro i n c hi hn hc hb
    obtain ⟨n, rfl⟩ : ∃ k, n = k + 1 := ⟨n - 1, by omega⟩
    obtain ⟨a1, a2, a3⟩ := wl_after h hc
    obtain ⟨q1, q2⟩ := hcl c hc hb
    have bt := wx_bit8 _ hV c hc
    rw [if_neg (by rw [hSV c hc hb]; simp)] at bt
    have h01 : ¬ nI 0 = nI 1 := by decide
    cases hA : wAf τ c with
    | none => cases q2 hA
    | some a =>
      have a8 := a1 a hA
      rw [hA] at a2
      simp only [wEn] at a2
      have hba : S.testBit a = true := by
        rcases q1 a hA with q | q
        · exact q
        · cases q; exact hc0
      have q := ih (i + 1) n a (by omega) (by omega) a8 hba
      have ne := wEn_ne hc
      simp -implicitDefEqProofs (disch := omega) only [e_X7_commonOf_12, e_X7_commonOf_12__1, e_X7_commonOf_12__2, a2, ne, bt, h01, wx_bd, wx_let, wx_st, wx_lit, wx_ga, wx_sa, pk_mul, nI_add, wx_le, wx_lt, wx_eq, wx_en, wx_ne', wx_nn, wx_ltn, wx_len, wx_nlt, wx_nle, wx_bz0, wx_bz1, if_pos, if_neg, wx_ite, Nat.reduceEqDiff, eq_self, if_true, if_false, not_true_eq_false, not_false_eq_true]
      exact q
set_option maxHeartbeats 1000000 in
theorem wl_common (h : wKn σ 0 τ) {V : Nat} (hV : V < 256) : ∀ d i n m S o, i + d = 8 → d < n → d + 1 < m → S < 256 → (∀ a, a < 8 → S.testBit a = true → V.testBit a = false) → (∀ c, o = some c → c < 8) → wCl τ S o → wh_pc S = i → ∃ r, f_X7_commonOf_12 n 280 (nI V) (wEn o) (nI i) σ = some (r, σ) ∧ f_X12_commonOf_12 m 0 (nI V) (nI S) (wEn o) τ = some (r, τ) := by
  intro d
  induction d with
  | zero =>
    intro i n m S o hi hn hm hS hSV ho hcl hp
    obtain ⟨n, rfl⟩ : ∃ k, n = k + 1 := ⟨n - 1, by omega⟩
    obtain ⟨m, rfl⟩ : ∃ k, m = k + 1 := ⟨m - 1, by omega⟩
    refine ⟨-nI 1, by simp -implicitDefEqProofs (disch := omega) only [e_X7_commonOf_12, e_X7_commonOf_12__1, e_X7_commonOf_12__2, wx_bd, wx_let, wx_st, wx_lit, wx_ga, wx_sa, pk_mul, nI_add, wx_le, wx_lt, wx_eq, wx_en, wx_ne', wx_nn, wx_ltn, wx_len, wx_nlt, wx_nle, wx_bz0, wx_bz1, if_pos, if_neg, wx_ite, Nat.reduceEqDiff, eq_self, if_true, if_false, not_true_eq_false, not_false_eq_true], ?_⟩
    cases o with
    | none => simp -implicitDefEqProofs (disch := omega) only [e_X12_commonOf_12, e_X12_commonOf_12__1, e_X12_commonOf_12__2, e_X12_commonOf_12__3, e_X12_commonOf_12__4, wEn, wx_bd, wx_let, wx_st, wx_lit, wx_ga, wx_sa, pk_mul, nI_add, wx_le, wx_lt, wx_eq, wx_en, wx_ne', wx_nn, wx_ltn, wx_len, wx_nlt, wx_nle, wx_bz0, wx_bz1, if_pos, if_neg, wx_ite, Nat.reduceEqDiff, eq_self, if_true, if_false, not_true_eq_false, not_false_eq_true]
    | some c =>
      have c8 := ho c rfl
      have bt := wx_bit8 _ hS c c8
      rw [if_pos (wk_full S hS (by omega) c c8)] at bt
      have ne := wEn_ne c8
      simp -implicitDefEqProofs (disch := omega) only [e_X12_commonOf_12, e_X12_commonOf_12__1, e_X12_commonOf_12__2, e_X12_commonOf_12__3, e_X12_commonOf_12__4, e_X12_has, wEn, ne, bt, wx_bd, wx_let, wx_st, wx_lit, wx_ga, wx_sa, pk_mul, nI_add, wx_le, wx_lt, wx_eq, wx_en, wx_ne', wx_nn, wx_ltn, wx_len, wx_nlt, wx_nle, wx_bz0, wx_bz1, if_pos, if_neg, wx_ite, Nat.reduceEqDiff, eq_self, if_true, if_false, not_true_eq_false, not_false_eq_true]
  | succ d ih =>
    intro i n m S o hi hn hm hS hSV ho hcl hp
    cases o with
    | none =>
      obtain ⟨n, rfl⟩ : ∃ k, n = k + 1 := ⟨n - 1, by omega⟩
      obtain ⟨m, rfl⟩ : ∃ k, m = k + 1 := ⟨m - 1, by omega⟩
      exact ⟨-nI 1, by simp -implicitDefEqProofs (disch := omega) only [e_X7_commonOf_12, e_X7_commonOf_12__1, e_X7_commonOf_12__2, wEn, wx_bd, wx_let, wx_st, wx_lit, wx_ga, wx_sa, pk_mul, nI_add, wx_le, wx_lt, wx_eq, wx_en, wx_ne', wx_nn, wx_ltn, wx_len, wx_nlt, wx_nle, wx_bz0, wx_bz1, if_pos, if_neg, wx_ite, Nat.reduceEqDiff, eq_self, if_true, if_false, not_true_eq_false, not_false_eq_true], by simp -implicitDefEqProofs (disch := omega) only [e_X12_commonOf_12, e_X12_commonOf_12__1, e_X12_commonOf_12__2, e_X12_commonOf_12__3, e_X12_commonOf_12__4, wEn, wx_bd, wx_let, wx_st, wx_lit, wx_ga, wx_sa, pk_mul, nI_add, wx_le, wx_lt, wx_eq, wx_en, wx_ne', wx_nn, wx_ltn, wx_len, wx_nlt, wx_nle, wx_bz0, wx_bz1, if_pos, if_neg, wx_ite, Nat.reduceEqDiff, eq_self, if_true, if_false, not_true_eq_false, not_false_eq_true]⟩
    | some c =>
      have c8 := ho c rfl
      have bt := wx_bit8 _ hS c c8
      have bv := wx_bit8 _ hV c c8
      have ne := wEn_ne c8
      have h01 : ¬ nI 0 = nI 1 := by decide
      by_cases cb : S.testBit c = true
      · rw [if_pos cb] at bt
        have st := wl_stay2 h hS hV hSV cb hcl (d + 1) i n c (by omega) (by omega) c8 cb
        obtain ⟨m, rfl⟩ : ∃ k, m = k + 1 := ⟨m - 1, by omega⟩
        exact ⟨-nI 1, st, by simp -implicitDefEqProofs (disch := omega) only [e_X12_commonOf_12, e_X12_commonOf_12__1, e_X12_commonOf_12__2, e_X12_commonOf_12__3, e_X12_commonOf_12__4, e_X12_has, wEn, ne, bt, wx_bd, wx_let, wx_st, wx_lit, wx_ga, wx_sa, pk_mul, nI_add, wx_le, wx_lt, wx_eq, wx_en, wx_ne', wx_nn, wx_ltn, wx_len, wx_nlt, wx_nle, wx_bz0, wx_bz1, if_pos, if_neg, wx_ite, Nat.reduceEqDiff, eq_self, if_true, if_false, not_true_eq_false, not_false_eq_true]⟩
      · rw [if_neg cb] at bt
        obtain ⟨n, rfl⟩ : ∃ k, n = k + 1 := ⟨n - 1, by omega⟩
        obtain ⟨m, rfl⟩ : ∃ k, m = k + 1 := ⟨m - 1, by omega⟩
        by_cases cv : V.testBit c = true
        · rw [if_pos cv] at bv
          exact ⟨nI c, by simp -implicitDefEqProofs (disch := omega) only [e_X7_commonOf_12, e_X7_commonOf_12__1, e_X7_commonOf_12__2, wEn, ne, bv, wx_bd, wx_let, wx_st, wx_lit, wx_ga, wx_sa, pk_mul, nI_add, wx_le, wx_lt, wx_eq, wx_en, wx_ne', wx_nn, wx_ltn, wx_len, wx_nlt, wx_nle, wx_bz0, wx_bz1, if_pos, if_neg, wx_ite, Nat.reduceEqDiff, eq_self, if_true, if_false, not_true_eq_false, not_false_eq_true], by simp -implicitDefEqProofs (disch := omega) only [e_X12_commonOf_12, e_X12_commonOf_12__1, e_X12_commonOf_12__2, e_X12_commonOf_12__3, e_X12_commonOf_12__4, e_X12_has, wEn, ne, bt, bv, h01, wx_bd, wx_let, wx_st, wx_lit, wx_ga, wx_sa, pk_mul, nI_add, wx_le, wx_lt, wx_eq, wx_en, wx_ne', wx_nn, wx_ltn, wx_len, wx_nlt, wx_nle, wx_bz0, wx_bz1, if_pos, if_neg, wx_ite, Nat.reduceEqDiff, eq_self, if_true, if_false, not_true_eq_false, not_false_eq_true]⟩
        · rw [if_neg cv] at bv
          obtain ⟨p1, p2⟩ := wk_add S hS c c8 (by simpa using cb)
          have es := wx_shl8 c (by omega)
          have h2c : 2 ^ c ≤ 2 ^ 8 := Nat.pow_le_pow_right (by omega) (by omega)
          obtain ⟨a1, a2, a3⟩ := wl_after h c8
          obtain ⟨r, r1, r2⟩ := ih (i + 1) n m (S ||| 2 ^ c) (wAf τ c) (by omega) (by omega) (by omega) p2 (fun a ha hb => by
            rw [wk_or] at hb
            by_cases ca : c = a
            · subst ca; simpa using cv
            · exact hSV a ha (by simpa [ca] using hb)) a1 (wCl_add hcl) (by omega)
          refine ⟨r, ?_, ?_⟩
          · simp -implicitDefEqProofs (disch := omega) only [e_X7_commonOf_12, e_X7_commonOf_12__1, e_X7_commonOf_12__2, wEn, ne, bv, h01, a2, wx_bd, wx_let, wx_st, wx_lit, wx_ga, wx_sa, pk_mul, nI_add, wx_le, wx_lt, wx_eq, wx_en, wx_ne', wx_nn, wx_ltn, wx_len, wx_nlt, wx_nle, wx_bz0, wx_bz1, if_pos, if_neg, wx_ite, Nat.reduceEqDiff, eq_self, if_true, if_false, not_true_eq_false, not_false_eq_true]
            exact r1
          · simp -implicitDefEqProofs (disch := omega) only [e_X12_commonOf_12, e_X12_commonOf_12__1, e_X12_commonOf_12__2, e_X12_commonOf_12__3, e_X12_commonOf_12__4, e_X12_has, wEn, ne, bt, bv, h01, es, fa_or, a3, wx_bd, wx_let, wx_st, wx_lit, wx_ga, wx_sa, pk_mul, nI_add, wx_le, wx_lt, wx_eq, wx_en, wx_ne', wx_nn, wx_ltn, wx_len, wx_nlt, wx_nle, wx_bz0, wx_bz1, if_pos, if_neg, wx_ite, Nat.reduceEqDiff, eq_self, if_true, if_false, not_true_eq_false, not_false_eq_true]
            exact r2
end KJ
set_option maxHeartbeats 1000000 in
theorem ws_kin : wp_kin wR := by
  intro σ τ a0 a1 h
  have h := wR_told (nI 0) h
  simp only [e_X12_kin, wx_st, wx_lit]
  generalize wg_u τ 0 0 (nI 0) = τ at h ⊢
  obtain ⟨nw, nj, nc, hX, hY, hP, hI, hD⟩ := wR_X h
  obtain ⟨n1, n2, n3, n4, n5, n6⟩ := id hX.1
  have hK := hX.2.2.2.1.2.2.2.1
  rcases wk_wig (wb_nw hX.2.1) n4 n1 a0 with ⟨c1, c2⟩ | ⟨w, hw, rfl, c1, c2⟩
  · exact ⟨-nI 1, σ, τ, by simp -implicitDefEqProofs (disch := omega) only [e_X11_kin, e_X11_kin__1, e_X11_kin__2, e_X11_kin__3, e_X11_kin__4, c1, wx_bd, wx_let, wx_st, wx_lit, wx_ga, wx_sa, pk_mul, nI_add, wx_le, wx_lt, wx_eq, wx_en, wx_ne', wx_nn, wx_ltn, wx_len, wx_nlt, wx_nle, wx_bz0, wx_bz1, if_pos, if_neg, wx_ite, Nat.reduceEqDiff, eq_self, if_true, if_false, not_true_eq_false, not_false_eq_true], by simp -implicitDefEqProofs (disch := omega) only [e_X12_kin, e_X12_kin__1, e_X12_kin__2, e_X12_kin__3, c2, wx_bd, wx_let, wx_st, wx_lit, wx_ga, wx_sa, pk_mul, nI_add, wx_le, wx_lt, wx_eq, wx_en, wx_ne', wx_nn, wx_ltn, wx_len, wx_nlt, wx_nle, wx_bz0, wx_bz1, if_pos, if_neg, wx_ite, Nat.reduceEqDiff, eq_self, if_true, if_false, not_true_eq_false, not_false_eq_true], h⟩
  · by_cases cm : a1 = -nI 1
    · subst cm
      obtain ⟨r, r1, r2⟩ := wl_root hK 8 0 wg_N wg_N 0 w (by omega) (by rw [wx_N]; omega) (by rw [wx_N]; omega) (by omega) (by omega) (by simp) (by decide)
      have es := wx_shl8 w (by omega)
      rw [Nat.zero_or] at r2
      have q1 : f_X7_rootOf 280 (nI w) σ = some (r, σ) := by rw [e_X7_rootOf]; exact r1
      have q2 : f_X12_rootOf 0 (nI w) τ = some (r, τ) := by
        simp -implicitDefEqProofs (disch := omega) only [e_X12_rootOf, e_X12_rootOf__1, es, wx_bd, wx_let, wx_st, wx_lit, wx_ga, wx_sa, pk_mul, nI_add, wx_le, wx_lt, wx_eq, wx_en, wx_ne', wx_nn, wx_ltn, wx_len, wx_nlt, wx_nle, wx_bz0, wx_bz1, if_pos, if_neg, wx_ite, Nat.reduceEqDiff, eq_self, if_true, if_false, not_true_eq_false, not_false_eq_true]; exact r2
      exact ⟨r, σ, τ, by simp -implicitDefEqProofs (disch := omega) only [e_X11_kin, e_X11_kin__1, e_X11_kin__2, e_X11_kin__3, e_X11_kin__4, c1, q1, wx_bd, wx_let, wx_st, wx_lit, wx_ga, wx_sa, pk_mul, nI_add, wx_le, wx_lt, wx_eq, wx_en, wx_ne', wx_nn, wx_ltn, wx_len, wx_nlt, wx_nle, wx_bz0, wx_bz1, if_pos, if_neg, wx_ite, Nat.reduceEqDiff, eq_self, if_true, if_false, not_true_eq_false, not_false_eq_true], by simp -implicitDefEqProofs (disch := omega) only [e_X12_kin, e_X12_kin__1, e_X12_kin__2, e_X12_kin__3, e_X12_kin_28, e_X12_kin_28__1, e_X12_kin_28__2, c2, q2, wx_bd, wx_let, wx_st, wx_lit, wx_ga, wx_sa, pk_mul, nI_add, wx_le, wx_lt, wx_eq, wx_en, wx_ne', wx_nn, wx_ltn, wx_len, wx_nlt, wx_nle, wx_bz0, wx_bz1, if_pos, if_neg, wx_ite, Nat.reduceEqDiff, eq_self, if_true, if_false, not_true_eq_false, not_false_eq_true], h⟩
    · rcases wk_wig (wb_nw hX.2.1) n4 n1 a1 with ⟨d1, d2⟩ | ⟨v, hv, rfl, d1, d2⟩
      · exact ⟨-nI 1, σ, τ, by simp -implicitDefEqProofs (disch := omega) only [e_X11_kin, e_X11_kin__1, e_X11_kin__2, e_X11_kin__3, e_X11_kin__4, c1, cm, d1, wx_bd, wx_let, wx_st, wx_lit, wx_ga, wx_sa, pk_mul, nI_add, wx_le, wx_lt, wx_eq, wx_en, wx_ne', wx_nn, wx_ltn, wx_len, wx_nlt, wx_nle, wx_bz0, wx_bz1, if_pos, if_neg, wx_ite, Nat.reduceEqDiff, eq_self, if_true, if_false, not_true_eq_false, not_false_eq_true], by simp -implicitDefEqProofs (disch := omega) only [e_X12_kin, e_X12_kin__1, e_X12_kin__2, e_X12_kin__3, c2, cm, d2, wx_bd, wx_let, wx_st, wx_lit, wx_ga, wx_sa, pk_mul, nI_add, wx_le, wx_lt, wx_eq, wx_en, wx_ne', wx_nn, wx_ltn, wx_len, wx_nlt, wx_nle, wx_bz0, wx_bz1, if_pos, if_neg, wx_ite, Nat.reduceEqDiff, eq_self, if_true, if_false, not_true_eq_false, not_false_eq_true], h⟩
      · have cl0 : ∀ o, wCl τ 0 o := fun o a _ hb => by simp at hb
        obtain ⟨R, R1, R2, R3⟩ := wl_back hK 8 0 wg_N wg_N 0 (some v) (by omega) (by rw [wx_N]; omega) (by rw [wx_N]; omega) (by omega) (fun c e => by cases e; omega) (cl0 _) (by decide)
        obtain ⟨r, r1, r2⟩ := wl_common hK R1 8 0 wg_N wg_N 0 (some w) (by omega) (by rw [wx_N]; omega) (by rw [wx_N]; omega) (by omega) (fun a _ hb => by simp at hb) (fun c e => by cases e; omega) (cl0 _) (by decide)
        simp only [wEn] at R2 R3 r1 r2
        have b1 : f_X7_backSet 280 (nI v) σ = some (nI R, σ) := by rw [e_X7_backSet]; exact R2
        have b2 : f_X12_backFrom 0 (nI v) τ = some (nI R, τ) := by rw [e_X12_backFrom]; exact R3
        have q1 : f_X7_commonOf 280 (nI w) (nI v) σ = some (r, σ) := by
          simp -implicitDefEqProofs (disch := omega) only [e_X7_commonOf, e_X7_commonOf__1, b1, wx_bd, wx_let, wx_st, wx_lit, wx_ga, wx_sa, pk_mul, nI_add, wx_le, wx_lt, wx_eq, wx_en, wx_ne', wx_nn, wx_ltn, wx_len, wx_nlt, wx_nle, wx_bz0, wx_bz1, if_pos, if_neg, wx_ite, Nat.reduceEqDiff, eq_self, if_true, if_false, not_true_eq_false, not_false_eq_true]; exact r1
        have q2 : f_X12_commonOf 0 (nI w) (nI v) τ = some (r, τ) := by
          simp -implicitDefEqProofs (disch := omega) only [e_X12_commonOf, e_X12_commonOf__1, b2, wx_bd, wx_let, wx_st, wx_lit, wx_ga, wx_sa, pk_mul, nI_add, wx_le, wx_lt, wx_eq, wx_en, wx_ne', wx_nn, wx_ltn, wx_len, wx_nlt, wx_nle, wx_bz0, wx_bz1, if_pos, if_neg, wx_ite, Nat.reduceEqDiff, eq_self, if_true, if_false, not_true_eq_false, not_false_eq_true]; exact r2
        exact ⟨r, σ, τ, by simp -implicitDefEqProofs (disch := omega) only [e_X11_kin, e_X11_kin__1, e_X11_kin__2, e_X11_kin__3, e_X11_kin__4, c1, cm, d1, q1, wx_bd, wx_let, wx_st, wx_lit, wx_ga, wx_sa, pk_mul, nI_add, wx_le, wx_lt, wx_eq, wx_en, wx_ne', wx_nn, wx_ltn, wx_len, wx_nlt, wx_nle, wx_bz0, wx_bz1, if_pos, if_neg, wx_ite, Nat.reduceEqDiff, eq_self, if_true, if_false, not_true_eq_false, not_false_eq_true], by simp -implicitDefEqProofs (disch := omega) only [e_X12_kin, e_X12_kin__1, e_X12_kin__2, e_X12_kin__3, e_X12_kin_28, e_X12_kin_28__1, e_X12_kin_28__2, c2, cm, d2, q2, wx_bd, wx_let, wx_st, wx_lit, wx_ga, wx_sa, pk_mul, nI_add, wx_le, wx_lt, wx_eq, wx_en, wx_ne', wx_nn, wx_ltn, wx_len, wx_nlt, wx_nle, wx_bz0, wx_bz1, if_pos, if_neg, wx_ite, Nat.reduceEqDiff, eq_self, if_true, if_false, not_true_eq_false, not_false_eq_true], h⟩

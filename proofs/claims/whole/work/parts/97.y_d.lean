set_option maxHeartbeats 1000000 in
theorem ws_text : wp_text wR := by
  intro σ τ a0 h
  obtain ⟨nw, nj, nc, hW, hP, hI, hD, hF⟩ := id h
  obtain ⟨n1, n2, n3, n4, n5, n6⟩ := id hW.1
  obtain ⟨⟨n, hn, d1, d2, d3⟩, d4, d5, d6⟩ := id hD
  have ht : ∀ i, i < n → σ 261 i = nI ((fun i => (τ 9 i).toInt.toNat) i) ∧ (fun i => (τ 9 i).toInt.toNat) i < 256 := fun i hi => by
    obtain ⟨e1, c, hc, e2⟩ := d3 i hi
    show σ 261 i = nI (τ 9 i).toInt.toNat ∧ (τ 9 i).toInt.toNat < 256
    rw [e1, e2, nI_toInt (by omega)]
    exact ⟨rfl, by show c < 256; exact hc⟩
  have ht9 : ∀ i, i < n → τ 9 i = nI ((fun i => (τ 9 i).toInt.toNat) i) ∧ (fun i => (τ 9 i).toInt.toNat) i < 256 := fun i hi => by
    have := ht i hi
    rw [(d3 i hi).1] at this
    exact this
  generalize (fun i => (τ 9 i).toInt.toNat) = t at ht ht9
  obtain ⟨M, σ1, b1, b2, b3, b4, b5, b6, b7⟩ := wl_begin6 (t := t) hn d1 ht
  have s1 : ∀ a i, (a < 260 ∨ 279 ≤ a) → σ1 a i = σ a i := fun a i z => b7 a i (by omega) (by omega) (by omega) (by omega)
  generalize hA : wg_u (wg_u (wg_u (wg_u (wg_u (wg_u τ 0 0 (nI 0)) 0 35 (nI 0)) 0 36 (-nI 1)) 0 16 (nI 0)) 0 29 (nI 0)) 0 30 (nI 0) = τ1
  have f1 : ∀ a i, ¬ (a = 0 ∧ (i = 0 ∨ i = 16 ∨ i = 29 ∨ i = 30 ∨ i = 35 ∨ i = 36)) → τ1 a i = τ a i := fun a i z => by
    rw [← hA, wx_ur, if_neg (by omega), wx_ur, if_neg (by omega), wx_ur, if_neg (by omega), wx_ur, if_neg (by omega), wx_ur, if_neg (by omega), wx_ur, if_neg (by omega)]
  have g16 : τ1 0 16 = nI 0 := by rw [← hA]; simp -implicitDefEqProofs (disch := omega) only [wx_uk, wx_un, pk_us, pk_un]
  have g29 : τ1 0 29 = nI 0 := by rw [← hA]; simp -implicitDefEqProofs (disch := omega) only [wx_uk, wx_un, pk_us, pk_un]
  have g30 : τ1 0 30 = nI 0 := by rw [← hA]; simp -implicitDefEqProofs (disch := omega) only [wx_uk, wx_un, pk_us, pk_un]
  have g35 : τ1 0 35 = nI 0 := by rw [← hA]; simp -implicitDefEqProofs (disch := omega) only [wx_uk, wx_un, pk_us, pk_un]
  have g36 : τ1 0 36 = -nI 1 := by rw [← hA]; simp -implicitDefEqProofs (disch := omega) only [wx_uk, wx_un, pk_us, pk_un]
  have outR : wR σ1 (wg_u τ1 0 15 (nI 0)) := by
    refine wR_tf h s1 (fun a i z => ?_) b4 (by rw [wx_uk, pk_us]) ?_ ?_
    · obtain ⟨-, z1, z2⟩ := qL_n a i z
      rw [wx_ur, if_neg (by omega)]
      exact f1 a i (by omega)
    · rw [wx_uk, pk_un (by omega), g35]; exact b5
    · rw [wx_uk, pk_un (by omega), g36]; exact b6
  by_cases lo : a0 < nI 0
  · have z0 : ¬ a0 = nI 0 := by
      rintro rfl
      exact absurd lo (by decide)
    have z1 : a0 < nI 1 := by
      rw [Int32.lt_iff_toInt_lt, nI_toInt (by omega)] at lo ⊢
      omega
    exact ⟨-nI 1, σ1, wg_u τ1 0 15 (nI 0), by simp -implicitDefEqProofs (disch := omega) only [e_X11_text, e_X11_text__1, e_X11_text__2, e_X11_text__3, e_X11_text__4, e_X11_text__5, e_X11_within, b1, z0, z1, wx_bd, wx_let, wx_st, wx_lit, wx_ga, wx_sa, pk_mul, nI_add, wx_le, wx_lt, wx_eq, wx_en, wx_ne', wx_nn, wx_ltn, wx_len, wx_nlt, wx_nle, wx_bz0, wx_bz1, if_pos, if_neg, wx_ite, Nat.reduceEqDiff, eq_self, if_true, if_false, not_true_eq_false, not_false_eq_true], by simp -implicitDefEqProofs (disch := omega) only [e_X12_text, e_X12_text__1, e_X12_text__2, e_X12_text__3, e_X12_text__4, e_X12_text__5, e_X12_text__6, e_X12_text__7, e_X12_text__8, e_X12_text__9, e_X12_text__10, e_X12_text_69, e_X12_text_69__1, e_X12_text_69__2, e_X12_text_69__3, e_X12_isIn, hA, lo, wx_bd, wx_let, wx_st, wx_lit, wx_ga, wx_sa, pk_mul, nI_add, wx_le, wx_lt, wx_eq, wx_en, wx_ne', wx_nn, wx_ltn, wx_len, wx_nlt, wx_nle, wx_bz0, wx_bz1, if_pos, if_neg, wx_ite, Nat.reduceEqDiff, eq_self, if_true, if_false, not_true_eq_false, not_false_eq_true], outR⟩
  by_cases hi : nI 3 < a0
  · have z0 : ¬ a0 = nI 0 := by
      rintro rfl
      exact absurd hi (by decide)
    have z1 : ¬ a0 < nI 1 := by
      rw [Int32.lt_iff_toInt_lt, nI_toInt (by omega)] at hi ⊢
      omega
    exact ⟨-nI 1, σ1, wg_u τ1 0 15 (nI 0), by simp -implicitDefEqProofs (disch := omega) only [e_X11_text, e_X11_text__1, e_X11_text__2, e_X11_text__3, e_X11_text__4, e_X11_text__5, e_X11_within, b1, z0, z1, hi, wx_bd, wx_let, wx_st, wx_lit, wx_ga, wx_sa, pk_mul, nI_add, wx_le, wx_lt, wx_eq, wx_en, wx_ne', wx_nn, wx_ltn, wx_len, wx_nlt, wx_nle, wx_bz0, wx_bz1, if_pos, if_neg, wx_ite, Nat.reduceEqDiff, eq_self, if_true, if_false, not_true_eq_false, not_false_eq_true], by simp -implicitDefEqProofs (disch := omega) only [e_X12_text, e_X12_text__1, e_X12_text__2, e_X12_text__3, e_X12_text__4, e_X12_text__5, e_X12_text__6, e_X12_text__7, e_X12_text__8, e_X12_text__9, e_X12_text__10, e_X12_text_69, e_X12_text_69__1, e_X12_text_69__2, e_X12_text_69__3, e_X12_isIn, hA, lo, hi, wx_bd, wx_let, wx_st, wx_lit, wx_ga, wx_sa, pk_mul, nI_add, wx_le, wx_lt, wx_eq, wx_en, wx_ne', wx_nn, wx_ltn, wx_len, wx_nlt, wx_nle, wx_bz0, wx_bz1, if_pos, if_neg, wx_ite, Nat.reduceEqDiff, eq_self, if_true, if_false, not_true_eq_false, not_false_eq_true], outR⟩
  obtain ⟨k, hk, rfl⟩ := wx_in lo hi (by omega)
  have hT : wTp t n (wg_u τ1 0 28 (nI 0)) := by
    refine ⟨?_, fun i hi => ?_, fun i hi => ?_⟩
    · rw [wx_uk, pk_un (by omega), f1 0 15 (by omega)]; exact d2
    · rw [wx_un (by omega), f1 9 i (by omega)]; exact ht9 i hi
    · rw [wx_un (by omega), f1 10 i (by omega), d6 i hi]; exact wTbl_z i hi
  obtain ⟨τ3, r1, r2, r3⟩ := wRM_0 (t := t) (j := 0) hn hT (by rw [wx_uk, pk_un (by omega), g16]; rfl)
  have T2 : ∀ a i, ¬ (a = 0 ∧ (i = 0 ∨ (16 ≤ i ∧ i ≤ 19) ∨ (28 ≤ i ∧ i ≤ 30) ∨ i = 35 ∨ i = 36)) → τ3 a i = τ a i := fun a i z => by
    rw [r3 a i (by omega), wx_ur, if_neg (by omega), f1 a i (by omega)]
  have t28 : τ3 0 28 = nI 0 := by rw [r3 0 28 (by omega), wx_uk, pk_us]
  have t29 : τ3 0 29 = nI 0 := by rw [r3 0 29 (by omega), wx_uk, pk_un (by omega)]; exact g29
  have t30 : τ3 0 30 = nI 0 := by rw [r3 0 30 (by omega), wx_uk, pk_un (by omega)]; exact g30
  have t35 : τ3 0 35 = nI 0 := by rw [r3 0 35 (by omega), wx_uk, pk_un (by omega)]; exact g35
  have t36 : τ3 0 36 = -nI 1 := by rw [r3 0 36 (by omega), wx_uk, pk_un (by omega)]; exact g36
  have t6 : τ3 0 6 = nI nw := by rw [T2 0 6 (by omega)]; exact n4
  have t7 : τ3 0 7 = nI nj := by rw [T2 0 7 (by omega)]; exact n5
  have t8 : τ3 0 8 = nI nc := by rw [T2 0 8 (by omega)]; exact n6
  have hTi := wRM_i (t := t) hn M
  have hB := hW.2.1
  have u28 : σ1 2 8 = nI nw := by rw [s1 2 8 (by omega)]; exact wb_nw hB
  have u115 : σ1 11 5 = nI nj := by rw [s1 11 5 (by omega)]; exact wb_nj hB
  have u16 : σ1 1 6 = nI nc := by rw [s1 1 6 (by omega)]; exact wb_nc hB
  have hM := b2.1
  have nm : ∀ x : Nat, x ≤ 16 → ¬ nI x = -nI 1 := fun x hx => by rw [wx_en (by omega) (by omega) (by omega)]; exact fun q => q
  obtain ⟨-, -, -, -, hLw, hDk, hLn, hKn, -⟩ := id hW
  rcases (show k = 0 ∨ k = 1 ∨ k = 2 ∨ k = 3 by omega) with rfl | rfl | rfl | rfl
  · generalize hs : wg_u (wg_u σ1 266 2 (nI 0)) 266 6 (nI 0) = σ2
    have fs : ∀ a i, ¬ (a = 266 ∧ (i = 2 ∨ i = 6)) → σ2 a i = σ1 a i := fun a i z => by rw [← hs, wx_ur, if_neg (by omega), wx_ur, if_neg (by omega)]
    have hc2 : wTc M (wTS t n) (wTV t n) (wTF t n) 0 σ2 := wTc_fr b3 (fun a i z => fs a i (by omega))
    have q2 : σ2 266 2 = nI 0 := by rw [← hs]; simp -implicitDefEqProofs (disch := omega) only [wx_uk, wx_un, pk_us, pk_un]
    have q6 : σ2 266 6 = nI 0 := by rw [← hs]; simp -implicitDefEqProofs (disch := omega) only [wx_uk, wx_un, pk_us, pk_un]
    have c2 : ∀ a i, (a < 260 ∨ 279 ≤ a) → σ2 a i = σ a i := fun a i z => by rw [fs a i (by omega)]; exact s1 a i z
    rcases wl_lawL b2 hTi M 0 0 (fun _ => []) (fun _ => []) σ2 τ3 wg_N wg_N (by omega) (by rw [wx_N]; omega) (by rw [wx_N]; omega) (by omega) hc2 r2 ⟨q2, trivial⟩ ⟨t29, trivial⟩ (by show 0 ≤ 0; omega) q6 t30 (fun l hl => by omega) with ⟨m, σ', τ', a1, a2, a3, a4, a5, a6, a7⟩ | ⟨σ', τ', a1, a2, a3⟩
    · obtain ⟨τ6, e1, e2⟩ := wl_txL hW hP hI hD hF c2 (by rw [fs 260 2 (by omega)]; exact b4) (by rw [fs 260 8 (by omega)]; exact b5) (by rw [fs 260 9 (by omega)]; exact b6) T2 t28 t35 t36 a1 a4 a5 a6 a7
      have cp := wl_copyK (σ := σ') wShK_266 wShK_26
      have k6 : wcK 266 26 σ' 26 6 = nI m := by rw [wcK_c6 (by omega)]; exact a4
      have nm' := nm m a1
      refine ⟨nI m, wcK 266 26 σ', τ6, ?_, ?_, e2⟩
      · simp -implicitDefEqProofs (disch := omega) only [e_X11_text, e_X11_text__1, e_X11_text__2, e_X11_text__3, e_X11_text__4, e_X11_text__5, e_X6_readLaw, e_X6_readLaw__1, e_X3_clear, e_X3_clear__1, e_X3_clear__2, b1, hs, a2, e_X6_readLaw_43, e_X6_readLaw_43__1, cp, k6, wx_bd, wx_let, wx_st, wx_lit, wx_ga, wx_sa, pk_mul, nI_add, wx_le, wx_lt, wx_eq, wx_en, wx_ne', wx_nn, wx_ltn, wx_len, wx_nlt, wx_nle, wx_bz0, wx_bz1, if_pos, if_neg, wx_ite, Nat.reduceEqDiff, eq_self, if_true, if_false, not_true_eq_false, not_false_eq_true]
      · simp -implicitDefEqProofs (disch := omega) only [e_X12_text, e_X12_text__1, e_X12_text__2, e_X12_text__3, e_X12_text__4, e_X12_text__5, e_X12_text__6, e_X12_text__7, e_X12_text__8, e_X12_text__9, e_X12_text__10, e_X12_text_69, e_X12_text_69__1, e_X12_text_69__2, e_X12_text_69__3, e_X12_isIn, e_X12_readsText, e_X12_readsText__1, e_X12_readsText__2, e_X12_readsText__3, e_X12_readsText__4, e_X12_readsText__5, e_X12_readsText__6, e_X12_readLaw, hA, r1, a3, nm', e1, wx_bd, wx_let, wx_st, wx_lit, wx_ga, wx_sa, pk_mul, nI_add, wx_le, wx_lt, wx_eq, wx_en, wx_ne', wx_nn, wx_ltn, wx_len, wx_nlt, wx_nle, wx_bz0, wx_bz1, if_pos, if_neg, wx_ite, Nat.reduceEqDiff, eq_self, if_true, if_false, not_true_eq_false, not_false_eq_true]
    · refine ⟨-nI 1, σ', _, ?_, ?_, wl_txE h pL_n rfl (fun a i z => (qL_n a i z).1) c2 (by rw [fs 260 2 (by omega)]; exact b4) T2 a3⟩
      · simp -implicitDefEqProofs (disch := omega) only [e_X11_text, e_X11_text__1, e_X11_text__2, e_X11_text__3, e_X11_text__4, e_X11_text__5, e_X6_readLaw, e_X6_readLaw__1, e_X3_clear, e_X3_clear__1, e_X3_clear__2, b1, hs, a1, wx_bd, wx_let, wx_st, wx_lit, wx_ga, wx_sa, pk_mul, nI_add, wx_le, wx_lt, wx_eq, wx_en, wx_ne', wx_nn, wx_ltn, wx_len, wx_nlt, wx_nle, wx_bz0, wx_bz1, if_pos, if_neg, wx_ite, Nat.reduceEqDiff, eq_self, if_true, if_false, not_true_eq_false, not_false_eq_true]
      · simp -implicitDefEqProofs (disch := omega) only [e_X12_text, e_X12_text__1, e_X12_text__2, e_X12_text__3, e_X12_text__4, e_X12_text__5, e_X12_text__6, e_X12_text__7, e_X12_text__8, e_X12_text__9, e_X12_text__10, e_X12_text_69, e_X12_text_69__1, e_X12_text_69__2, e_X12_text_69__3, e_X12_isIn, e_X12_readsText, e_X12_readsText__1, e_X12_readsText__2, e_X12_readsText__3, e_X12_readsText__4, e_X12_readsText__5, e_X12_readsText__6, e_X12_readLaw, hA, r1, a2, wx_uk, wx_un, pk_us, pk_un, wx_bd, wx_let, wx_st, wx_lit, wx_ga, wx_sa, pk_mul, nI_add, wx_le, wx_lt, wx_eq, wx_en, wx_ne', wx_nn, wx_ltn, wx_len, wx_nlt, wx_nle, wx_bz0, wx_bz1, if_pos, if_neg, wx_ite, Nat.reduceEqDiff, eq_self, if_true, if_false, not_true_eq_false, not_false_eq_true]
  · generalize hs : wg_u σ1 274 4 (nI 0) = σ2
    have fs : ∀ a i, ¬ (a = 274 ∧ i = 4) → σ2 a i = σ1 a i := fun a i z => by rw [← hs, wx_ur, if_neg (by omega)]
    have hc2 : wTc M (wTS t n) (wTV t n) (wTF t n) 0 σ2 := wTc_fr b3 (fun a i z => fs a i (by omega))
    have q4 : σ2 274 4 = nI 0 := by rw [← hs, wx_uk, pk_us]
    have c2 : ∀ a i, (a < 260 ∨ 279 ≤ a) → σ2 a i = σ a i := fun a i z => by rw [fs a i (by omega)]; exact s1 a i z
    have fk : wFx qN τ3 τ3 := wFx_r _ _
    rcases wl_dkL b2 hTi ⟨n2, n3⟩ M 0 0 σ2 τ3 wg_N wg_N (by omega) (by rw [wx_N]; omega) (by rw [wx_N]; omega) (by omega) hc2 r2 q4 (by rw [fs 1 6 (by omega)]; exact u16) (by rw [fs 11 5 (by omega)]; exact u115) t8 t7 (fun l hl => by omega) with ⟨m, σ', τ', a1, a2, a3, a4, a5, a6, a7⟩ | ⟨σ', τ', a1, a2, a3⟩
    · have cp := wl_copyL (n := 16) (σ := σ') (by omega) wShL_274 wShL_34
      have nm' := nm m a1
      have gS : ∀ a i, (a < 260 ∨ 279 ≤ a) → σ' a i = σ a i := fun a i z => by rw [a6 a i (pN_n a i z)]; exact c2 a i z
      have gF : ∀ a, (a < 260 ∨ 279 ≤ a) → σ' a = σ a := fun a z => funext fun i => gS a i z
      have gT : ∀ a i, (wLv a i = true ∨ a = 2 ∨ a = 33 ∨ a = 10 ∨ (a = 0 ∧ (i = 3 ∨ i = 5 ∨ i = 58))) → τ' a i = τ a i := fun a i z => by
        rw [a7 a i (qN_n a i z), fk a i (qN_n a i z)]; exact T2 a i (qL_n a i z).2.1
      have hd : 274 + 5 ≤ 34 ∨ 34 + 5 ≤ 274 := by omega
      have fa : wFx qN τ3 τ' := wFx_t fk a7
      obtain ⟨τ5, e1, e2, e3⟩ := wl_tk47 a1 (3 * m) 0 wg_N (wg_u τ' 0 15 (nI 0)) (by omega) (by rw [wx_N]; omega)
      have e4 : ∀ a i, ¬ (a = 19 ∧ i < 3 * m) → ¬ (a = 0 ∧ i = 15) → τ5 a i = τ' a i := fun a i z1 z2 => by rw [e3 a i (by omega), wx_ur, if_neg z2]
      have e5 : ∀ i, i < 3 * m → τ5 19 i = τ' 19 (48 + i) := fun i hi => by rw [e2 i (by omega) hi, wx_un (by omega)]
      obtain ⟨pn, nx, -, x2, -, x4, -, -⟩ := hP
      refine ⟨nI m, wg_u (wcL 16 274 34 σ') 258 2 (nI 0), wg_u (wg_u τ5 0 37 (nI m)) 0 3 (nI 0), ?_, ?_, ?_⟩
      · have k4 : (wg_u (wcL 16 274 34 σ') 258 2 (nI 0)) 274 4 = nI m := by rw [wx_un (by omega), wcL_un (by omega)]; exact a4
        simp -implicitDefEqProofs (disch := omega) only [e_X11_text, e_X11_text__1, e_X11_text__2, e_X11_text__3, e_X11_text__4, e_X11_text__5, e_X11_text_70, e_X11_within, e_X6_readLines, e_X6_readLines__1, e_X6_readLines_59, e_X6_readLines_59__1, e_X6_readLines_59__2, e_X6_readLines_59__3, e_X5_forget, e_X5_forget__1, b1, hs, a2, cp, k4, wx_bd, wx_let, wx_st, wx_lit, wx_ga, wx_sa, pk_mul, nI_add, wx_le, wx_lt, wx_eq, wx_en, wx_ne', wx_nn, wx_ltn, wx_len, wx_nlt, wx_nle, wx_bz0, wx_bz1, if_pos, if_neg, wx_ite, Nat.reduceEqDiff, eq_self, if_true, if_false, not_true_eq_false, not_false_eq_true]
      · simp -implicitDefEqProofs (disch := omega) only [e_X12_text, e_X12_text__1, e_X12_text__2, e_X12_text__3, e_X12_text__4, e_X12_text__5, e_X12_text__6, e_X12_text__7, e_X12_text__8, e_X12_text__9, e_X12_text__10, e_X12_text_69, e_X12_text_69__1, e_X12_text_69__2, e_X12_text_69__3, e_X12_isIn, e_X12_readsText, e_X12_readsText__1, e_X12_readsText__2, e_X12_readsText__3, e_X12_readsText__4, e_X12_readsText__5, e_X12_readsText__6, e_X12_readDocket, e_X12_takesOther, hA, r1, a3, nm', e1, wx_bd, wx_let, wx_st, wx_lit, wx_ga, wx_sa, pk_mul, nI_add, wx_le, wx_lt, wx_eq, wx_en, wx_ne', wx_nn, wx_ltn, wx_len, wx_nlt, wx_nle, wx_bz0, wx_bz1, if_pos, if_neg, wx_ite, Nat.reduceEqDiff, eq_self, if_true, if_false, not_true_eq_false, not_false_eq_true]
      · refine wl_txO hW hI hD hF (Or.inl rfl) (fun a i z => by rw [wx_ur, if_neg z]) c2 (by rw [fs 260 2 (by omega)]; exact b4) (by rw [fs 260 8 (by omega)]; exact b5) (by rw [fs 260 9 (by omega)]; exact b6) T2 t35 t36 a6 fa ?_ (fun a i z1 z2 z3 z4 => ?_) ?_ ?_ ?_ (wP_0 x2 ?_ ?_ ?_)
        · rw [wx_ur, if_neg (by omega), wx_ur, if_neg (by omega), e3 0 15 (by omega), wx_uk, pk_us]
        · rw [wx_ur, if_neg (by omega), wx_ur, if_neg (by omega), e4 a i (by omega) (by omega)]
        · refine ⟨m, a1, ?_, ?_, fun i hi => ?_⟩
          · show (wg_u (wcL 16 274 34 σ') 258 2 (nI 0)) 34 4 = nI m
            rw [wx_un (by omega), wcL_c4 hd]; exact a4
          · rw [wx_ur, if_neg (by omega), wx_uk, pk_us]
          · obtain ⟨y1, y2, y3, y4, y5⟩ := a5 i hi
            have v0 : (wg_u (wg_u τ5 0 37 (nI m)) 0 3 (nI 0)) 19 (3 * i) = τ' 19 (48 + 3 * i) := by rw [wx_un (by omega), wx_un (by omega), e5 _ (by omega)]
            have v1 : (wg_u (wg_u τ5 0 37 (nI m)) 0 3 (nI 0)) 19 (3 * i + 1) = τ' 19 (48 + 3 * i + 1) := by rw [wx_un (by omega), wx_un (by omega), e5 _ (by omega), Nat.add_assoc]
            have v2 : (wg_u (wg_u τ5 0 37 (nI m)) 0 3 (nI 0)) 19 (3 * i + 2) = τ' 19 (48 + 3 * i + 2) := by rw [wx_un (by omega), wx_un (by omega), e5 _ (by omega), Nat.add_assoc]
            rw [v0, v1, v2, wx_un (by omega), wx_un (by omega), wx_un (by omega)]
            refine ⟨?_, ?_, ?_, y4, y5⟩
            · show wcL 16 274 34 σ' (34 + 1) i = _
              rw [wcL_r1 hd (by omega)]; exact y1
            · show wcL 16 274 34 σ' (34 + 3) i = _
              rw [wcL_r3 hd (by omega)]; exact y2
            · show wcL 16 274 34 σ' (34 + 4) i = _
              rw [wcL_r4 hd (by omega)]; exact y3
        · exact wLn_fr (fun a q1 q2 => by rw [wx_un (by omega), wcL_un (by omega)]; exact gF a (by omega)) (by rw [wx_ur, if_neg (by omega), wx_ur, if_neg (by omega), e4 0 39 (by omega) (by omega)]; exact gT 0 39 (Or.inl rfl)) (fun i hi => by rw [wx_un (by omega), wx_un (by omega), e4 20 i (by omega) (by omega)]; exact gT 20 i (Or.inl (by simp [wLv]; omega))) hLn
        · exact wKn_fr (fun a q1 q2 => by rw [wx_un (by omega), wcL_un (by omega)]; exact gF a (by omega)) (by rw [wx_ur, if_neg (by omega), wx_ur, if_neg (by omega), e4 0 41 (by omega) (by omega)]; exact gT 0 41 (Or.inl rfl)) (fun i hi => by rw [wx_un (by omega), wx_un (by omega), e4 21 i (by omega) (by omega)]; exact gT 21 i (Or.inl (by simp [wLv]; omega))) hKn
        · rw [wx_ur, if_neg (by omega), wcL_un (by omega)]; rw [gS 258 1 (by omega)]; exact x4
        · rw [wx_uk, pk_us]
        · rw [wx_uk, pk_us]
    · refine ⟨-nI 1, σ', _, ?_, ?_, wl_txE h pN_n rfl (fun a i z => qN_n a i z) c2 (by rw [fs 260 2 (by omega)]; exact b4) T2 (wE_t (wFx_r _ _) fk a3)⟩
      · simp -implicitDefEqProofs (disch := omega) only [e_X11_text, e_X11_text__1, e_X11_text__2, e_X11_text__3, e_X11_text__4, e_X11_text__5, e_X11_within, e_X6_readLines, e_X6_readLines__1, b1, hs, a1, wx_bd, wx_let, wx_st, wx_lit, wx_ga, wx_sa, pk_mul, nI_add, wx_le, wx_lt, wx_eq, wx_en, wx_ne', wx_nn, wx_ltn, wx_len, wx_nlt, wx_nle, wx_bz0, wx_bz1, if_pos, if_neg, wx_ite, Nat.reduceEqDiff, eq_self, if_true, if_false, not_true_eq_false, not_false_eq_true]
      · simp -implicitDefEqProofs (disch := omega) only [e_X12_text, e_X12_text__1, e_X12_text__2, e_X12_text__3, e_X12_text__4, e_X12_text__5, e_X12_text__6, e_X12_text__7, e_X12_text__8, e_X12_text__9, e_X12_text__10, e_X12_text_69, e_X12_text_69__1, e_X12_text_69__2, e_X12_text_69__3, e_X12_isIn, e_X12_readsText, e_X12_readsText__1, e_X12_readsText__2, e_X12_readsText__3, e_X12_readsText__4, e_X12_readsText__5, e_X12_readsText__6, e_X12_readDocket, hA, r1, a2, wx_uk, wx_un, pk_us, pk_un, wx_bd, wx_let, wx_st, wx_lit, wx_ga, wx_sa, pk_mul, nI_add, wx_le, wx_lt, wx_eq, wx_en, wx_ne', wx_nn, wx_ltn, wx_len, wx_nlt, wx_nle, wx_bz0, wx_bz1, if_pos, if_neg, wx_ite, Nat.reduceEqDiff, eq_self, if_true, if_false, not_true_eq_false, not_false_eq_true]
  · generalize hs : wg_u σ1 274 4 (nI 0) = σ2
    have fs : ∀ a i, ¬ (a = 274 ∧ i = 4) → σ2 a i = σ1 a i := fun a i z => by rw [← hs, wx_ur, if_neg (by omega)]
    have hc2 : wTc M (wTS t n) (wTV t n) (wTF t n) 0 σ2 := wTc_fr b3 (fun a i z => fs a i (by omega))
    have q4 : σ2 274 4 = nI 0 := by rw [← hs, wx_uk, pk_us]
    have c2 : ∀ a i, (a < 260 ∨ 279 ≤ a) → σ2 a i = σ a i := fun a i z => by rw [fs a i (by omega)]; exact s1 a i z
    have fk : wFx qN τ3 τ3 := wFx_r _ _
    rcases wl_loL b2 hTi ⟨n1, n2⟩ M 0 0 σ2 τ3 wg_N wg_N (by omega) (by rw [wx_N]; omega) (by rw [wx_N]; omega) (by omega) hc2 r2 q4 (by rw [fs 2 8 (by omega)]; exact u28) (by rw [fs 11 5 (by omega)]; exact u115) t6 t7 (fun l hl => by omega) with ⟨m, σ', τ', a1, a2, a3, a4, a5, a6, a7⟩ | ⟨σ', τ', a1, a2, a3⟩
    · have cp := wl_copyL (n := 16) (σ := σ') (by omega) wShL_274 wShL_39
      have nm' := nm m a1
      have gS : ∀ a i, (a < 260 ∨ 279 ≤ a) → σ' a i = σ a i := fun a i z => by rw [a6 a i (pN_n a i z)]; exact c2 a i z
      have gF : ∀ a, (a < 260 ∨ 279 ≤ a) → σ' a = σ a := fun a z => funext fun i => gS a i z
      have gT : ∀ a i, (wLv a i = true ∨ a = 2 ∨ a = 33 ∨ a = 10 ∨ (a = 0 ∧ (i = 3 ∨ i = 5 ∨ i = 58))) → τ' a i = τ a i := fun a i z => by
        rw [a7 a i (qN_n a i z), fk a i (qN_n a i z)]; exact T2 a i (qL_n a i z).2.1
      have hd : 274 + 5 ≤ 39 ∨ 39 + 5 ≤ 274 := by omega
      have fa : wFx qN τ3 τ' := wFx_t fk a7
      obtain ⟨τ5, e1, e2, e3⟩ := wl_tk85 a1 (4 * m) 0 wg_N (wg_u τ' 0 15 (nI 0)) (by omega) (by rw [wx_N]; omega)
      have e4 : ∀ a i, ¬ (a = 20 ∧ i < 4 * m) → ¬ (a = 0 ∧ i = 15) → τ5 a i = τ' a i := fun a i z1 z2 => by rw [e3 a i (by omega), wx_ur, if_neg z2]
      have e5 : ∀ i, i < 4 * m → τ5 20 i = τ' 20 (64 + i) := fun i hi => by rw [e2 i (by omega) hi, wx_un (by omega)]
      obtain ⟨pn, nx, -, x2, -, x4, -, -⟩ := hP
      refine ⟨nI m, wg_u (wcL 16 274 39 σ') 258 2 (nI 0), wg_u (wg_u τ5 0 39 (nI m)) 0 3 (nI 0), ?_, ?_, ?_⟩
      · have k4 : (wg_u (wcL 16 274 39 σ') 258 2 (nI 0)) 274 4 = nI m := by rw [wx_un (by omega), wcL_un (by omega)]; exact a4
        simp -implicitDefEqProofs (disch := omega) only [e_X11_text, e_X11_text__1, e_X11_text__2, e_X11_text__3, e_X11_text__4, e_X11_text__5, e_X11_text_70, e_X11_within, e_X6_readLines, e_X6_readLines__1, e_X6_readLines_59, e_X6_readLines_59__1, e_X6_readLines_59__2, e_X6_readLines_59__3, e_X5_forget, e_X5_forget__1, b1, hs, a2, cp, k4, wx_bd, wx_let, wx_st, wx_lit, wx_ga, wx_sa, pk_mul, nI_add, wx_le, wx_lt, wx_eq, wx_en, wx_ne', wx_nn, wx_ltn, wx_len, wx_nlt, wx_nle, wx_bz0, wx_bz1, if_pos, if_neg, wx_ite, Nat.reduceEqDiff, eq_self, if_true, if_false, not_true_eq_false, not_false_eq_true]
      · simp -implicitDefEqProofs (disch := omega) only [e_X12_text, e_X12_text__1, e_X12_text__2, e_X12_text__3, e_X12_text__4, e_X12_text__5, e_X12_text__6, e_X12_text__7, e_X12_text__8, e_X12_text__9, e_X12_text__10, e_X12_text_69, e_X12_text_69__1, e_X12_text_69__2, e_X12_text_69__3, e_X12_isIn, e_X12_readsText, e_X12_readsText__1, e_X12_readsText__2, e_X12_readsText__3, e_X12_readsText__4, e_X12_readsText__5, e_X12_readsText__6, e_X12_readLoans, e_X12_takesOther, hA, r1, a3, nm', e1, wx_bd, wx_let, wx_st, wx_lit, wx_ga, wx_sa, pk_mul, nI_add, wx_le, wx_lt, wx_eq, wx_en, wx_ne', wx_nn, wx_ltn, wx_len, wx_nlt, wx_nle, wx_bz0, wx_bz1, if_pos, if_neg, wx_ite, Nat.reduceEqDiff, eq_self, if_true, if_false, not_true_eq_false, not_false_eq_true]
      · refine wl_txO hW hI hD hF (Or.inr (Or.inl rfl)) (fun a i z => by rw [wx_ur, if_neg z]) c2 (by rw [fs 260 2 (by omega)]; exact b4) (by rw [fs 260 8 (by omega)]; exact b5) (by rw [fs 260 9 (by omega)]; exact b6) T2 t35 t36 a6 fa ?_ (fun a i z1 z2 z3 z4 => ?_) ?_ ?_ ?_ (wP_0 x2 ?_ ?_ ?_)
        · rw [wx_ur, if_neg (by omega), wx_ur, if_neg (by omega), e3 0 15 (by omega), wx_uk, pk_us]
        · rw [wx_ur, if_neg (by omega), wx_ur, if_neg (by omega), e4 a i (by omega) (by omega)]
        · exact wDk_fr (fun a q1 q2 => by rw [wx_un (by omega), wcL_un (by omega)]; exact gF a (by omega)) (by rw [wx_ur, if_neg (by omega), wx_ur, if_neg (by omega), e4 0 37 (by omega) (by omega)]; exact gT 0 37 (Or.inl rfl)) (fun i hi => by rw [wx_un (by omega), wx_un (by omega), e4 19 i (by omega) (by omega)]; exact gT 19 i (Or.inl (by simp [wLv]; omega))) hDk
        · refine ⟨m, a1, ?_, ?_, fun i hi => ?_⟩
          · show (wg_u (wcL 16 274 39 σ') 258 2 (nI 0)) 39 4 = nI m
            rw [wx_un (by omega), wcL_c4 hd]; exact a4
          · rw [wx_ur, if_neg (by omega), wx_uk, pk_us]
          · obtain ⟨y1, y2, y3, y4, y5, y6⟩ := a5 i hi
            have v0 : (wg_u (wg_u τ5 0 39 (nI m)) 0 3 (nI 0)) 20 (4 * i) = τ' 20 (64 + 4 * i) := by rw [wx_un (by omega), wx_un (by omega), e5 _ (by omega)]
            have v1 : (wg_u (wg_u τ5 0 39 (nI m)) 0 3 (nI 0)) 20 (4 * i + 1) = τ' 20 (64 + 4 * i + 1) := by rw [wx_un (by omega), wx_un (by omega), e5 _ (by omega), Nat.add_assoc]
            have v2 : (wg_u (wg_u τ5 0 39 (nI m)) 0 3 (nI 0)) 20 (4 * i + 2) = τ' 20 (64 + 4 * i + 2) := by rw [wx_un (by omega), wx_un (by omega), e5 _ (by omega), Nat.add_assoc]
            have v3 : (wg_u (wg_u τ5 0 39 (nI m)) 0 3 (nI 0)) 20 (4 * i + 3) = τ' 20 (64 + 4 * i + 3) := by rw [wx_un (by omega), wx_un (by omega), e5 _ (by omega), Nat.add_assoc]
            rw [v0, v1, v2, v3, wx_un (by omega), wx_un (by omega), wx_un (by omega), wx_un (by omega)]
            refine ⟨?_, ?_, ?_, ?_, y5, y6⟩
            · show wcL 16 274 39 σ' (39 + 1) i = _
              rw [wcL_r1 hd (by omega)]; exact y1
            · show wcL 16 274 39 σ' (39 + 2) i = _
              rw [wcL_r2 hd (by omega)]; exact y2
            · show wcL 16 274 39 σ' (39 + 3) i = _
              rw [wcL_r3 hd (by omega)]; exact y3
            · show wcL 16 274 39 σ' (39 + 4) i = _
              rw [wcL_r4 hd (by omega)]; exact y4
        · exact wKn_fr (fun a q1 q2 => by rw [wx_un (by omega), wcL_un (by omega)]; exact gF a (by omega)) (by rw [wx_ur, if_neg (by omega), wx_ur, if_neg (by omega), e4 0 41 (by omega) (by omega)]; exact gT 0 41 (Or.inl rfl)) (fun i hi => by rw [wx_un (by omega), wx_un (by omega), e4 21 i (by omega) (by omega)]; exact gT 21 i (Or.inl (by simp [wLv]; omega))) hKn
        · rw [wx_ur, if_neg (by omega), wcL_un (by omega)]; rw [gS 258 1 (by omega)]; exact x4
        · rw [wx_uk, pk_us]
        · rw [wx_uk, pk_us]
    · refine ⟨-nI 1, σ', _, ?_, ?_, wl_txE h pN_n rfl (fun a i z => qN_n a i z) c2 (by rw [fs 260 2 (by omega)]; exact b4) T2 (wE_t (wFx_r _ _) fk a3)⟩
      · simp -implicitDefEqProofs (disch := omega) only [e_X11_text, e_X11_text__1, e_X11_text__2, e_X11_text__3, e_X11_text__4, e_X11_text__5, e_X11_within, e_X6_readLines, e_X6_readLines__1, b1, hs, a1, wx_bd, wx_let, wx_st, wx_lit, wx_ga, wx_sa, pk_mul, nI_add, wx_le, wx_lt, wx_eq, wx_en, wx_ne', wx_nn, wx_ltn, wx_len, wx_nlt, wx_nle, wx_bz0, wx_bz1, if_pos, if_neg, wx_ite, Nat.reduceEqDiff, eq_self, if_true, if_false, not_true_eq_false, not_false_eq_true]
      · simp -implicitDefEqProofs (disch := omega) only [e_X12_text, e_X12_text__1, e_X12_text__2, e_X12_text__3, e_X12_text__4, e_X12_text__5, e_X12_text__6, e_X12_text__7, e_X12_text__8, e_X12_text__9, e_X12_text__10, e_X12_text_69, e_X12_text_69__1, e_X12_text_69__2, e_X12_text_69__3, e_X12_isIn, e_X12_readsText, e_X12_readsText__1, e_X12_readsText__2, e_X12_readsText__3, e_X12_readsText__4, e_X12_readsText__5, e_X12_readsText__6, e_X12_readLoans, hA, r1, a2, wx_uk, wx_un, pk_us, pk_un, wx_bd, wx_let, wx_st, wx_lit, wx_ga, wx_sa, pk_mul, nI_add, wx_le, wx_lt, wx_eq, wx_en, wx_ne', wx_nn, wx_ltn, wx_len, wx_nlt, wx_nle, wx_bz0, wx_bz1, if_pos, if_neg, wx_ite, Nat.reduceEqDiff, eq_self, if_true, if_false, not_true_eq_false, not_false_eq_true]
  · generalize hs : wg_u σ1 274 4 (nI 0) = σ2
    have fs : ∀ a i, ¬ (a = 274 ∧ i = 4) → σ2 a i = σ1 a i := fun a i z => by rw [← hs, wx_ur, if_neg (by omega)]
    have hc2 : wTc M (wTS t n) (wTV t n) (wTF t n) 0 σ2 := wTc_fr b3 (fun a i z => fs a i (by omega))
    have q4 : σ2 274 4 = nI 0 := by rw [← hs, wx_uk, pk_us]
    have c2 : ∀ a i, (a < 260 ∨ 279 ≤ a) → σ2 a i = σ a i := fun a i z => by rw [fs a i (by omega)]; exact s1 a i z
    obtain ⟨τk, kk1, kk2, kk3⟩ := wl_kn2 8 0 wg_N τ3 (by omega) (by rw [wx_N]; omega)
    have fk : wFx qN τ3 τk := fun a i z => kk3 a i (by
      simp only [qN, qS, Bool.or_eq_false_iff, Bool.and_eq_false_iff, beq_eq_false_iff_ne, decide_eq_false_iff_not] at z
      omega)
    have rk : wRM t n 0 τk := hTi.2.1 0 τ3 τk r2 (fun a i z => kk3 a i (by omega))
    have eK : f_X12_readKin 0 τ3 = f_X12_readKin_26 wg_N 0 (nI 0) τk := by rw [e_X12_readKin]; exact kk1
    rcases wl_knL b2 hTi n1 M 0 0 σ2 τk wg_N wg_N (by omega) (by rw [wx_N]; omega) (by rw [wx_N]; omega) (by omega) hc2 rk q4 (by rw [fs 2 8 (by omega)]; exact u28) (by rw [kk3 0 6 (by omega)]; exact t6) ⟨fun i hi => by omega, fun w hw => Or.inr ⟨fun i hi => by omega, kk2 w (by omega) hw⟩⟩ with ⟨m, σ', τ', a1, a2, a3, a4, a5, a6, a7⟩ | ⟨σ', τ', a1, a2, a3⟩
    · have cp := wl_copyL (n := 16) (σ := σ') (by omega) wShL_274 wShL_44
      have nm' := nm m a1
      have gS : ∀ a i, (a < 260 ∨ 279 ≤ a) → σ' a i = σ a i := fun a i z => by rw [a6 a i (pN_n a i z)]; exact c2 a i z
      have gF : ∀ a, (a < 260 ∨ 279 ≤ a) → σ' a = σ a := fun a z => funext fun i => gS a i z
      have gT : ∀ a i, (wLv a i = true ∨ a = 2 ∨ a = 33 ∨ a = 10 ∨ (a = 0 ∧ (i = 3 ∨ i = 5 ∨ i = 58))) → τ' a i = τ a i := fun a i z => by
        rw [a7 a i (qN_n a i z), fk a i (qN_n a i z)]; exact T2 a i (qL_n a i z).2.1
      have hd : 274 + 5 ≤ 44 ∨ 44 + 5 ≤ 274 := by omega
      have fa : wFx qN τ3 τ' := wFx_t fk a7
      obtain ⟨τ5, e1, e2, e3⟩ := wl_tk7 (n := m) 8 0 wg_N (wg_u τ' 0 15 (nI 0)) (by omega) (by rw [wx_N]; omega)
      have e4 : ∀ a i, ¬ (a = 21 ∧ i < 8) → ¬ (a = 0 ∧ i = 15) → τ5 a i = τ' a i := fun a i z1 z2 => by rw [e3 a i (by omega), wx_ur, if_neg z2]
      have e5 : ∀ i, i < 8 → τ5 21 i = τ' 21 (8 + i) := fun i hi => by rw [e2 i (by omega) hi, wx_un (by omega)]
      refine ⟨nI m, wcL 16 274 44 σ', wg_u τ5 0 41 (nI m), ?_, ?_, ?_⟩
      · have k4 : (wcL 16 274 44 σ') 274 4 = nI m := by rw [wcL_un (by omega)]; exact a4
        simp -implicitDefEqProofs (disch := omega) only [e_X11_text, e_X11_text__1, e_X11_text__2, e_X11_text__3, e_X11_text__4, e_X11_text__5, e_X11_text_70, e_X11_within, e_X6_readLines, e_X6_readLines__1, e_X6_readLines_59, e_X6_readLines_59__1, e_X6_readLines_59__2, e_X6_readLines_59__3, b1, hs, a2, cp, k4, wx_bd, wx_let, wx_st, wx_lit, wx_ga, wx_sa, pk_mul, nI_add, wx_le, wx_lt, wx_eq, wx_en, wx_ne', wx_nn, wx_ltn, wx_len, wx_nlt, wx_nle, wx_bz0, wx_bz1, if_pos, if_neg, wx_ite, Nat.reduceEqDiff, eq_self, if_true, if_false, not_true_eq_false, not_false_eq_true]
      · simp -implicitDefEqProofs (disch := omega) only [e_X12_text, e_X12_text__1, e_X12_text__2, e_X12_text__3, e_X12_text__4, e_X12_text__5, e_X12_text__6, e_X12_text__7, e_X12_text__8, e_X12_text__9, e_X12_text__10, e_X12_text_69, e_X12_text_69__1, e_X12_text_69__2, e_X12_text_69__3, e_X12_isIn, e_X12_readsText, e_X12_readsText__1, e_X12_readsText__2, e_X12_readsText__3, e_X12_readsText__4, e_X12_readsText__5, e_X12_readsText__6, e_X12_takesOther, hA, r1, eK, a3, nm', e1, wx_bd, wx_let, wx_st, wx_lit, wx_ga, wx_sa, pk_mul, nI_add, wx_le, wx_lt, wx_eq, wx_en, wx_ne', wx_nn, wx_ltn, wx_len, wx_nlt, wx_nle, wx_bz0, wx_bz1, if_pos, if_neg, wx_ite, Nat.reduceEqDiff, eq_self, if_true, if_false, not_true_eq_false, not_false_eq_true]
      · refine wl_txO hW hI hD hF (Or.inr (Or.inr rfl)) (fun a i z => rfl) c2 (by rw [fs 260 2 (by omega)]; exact b4) (by rw [fs 260 8 (by omega)]; exact b5) (by rw [fs 260 9 (by omega)]; exact b6) T2 t35 t36 a6 fa ?_ (fun a i z1 z2 z3 z4 => ?_) ?_ ?_ ?_ ?_
        · rw [wx_ur, if_neg (by omega), e3 0 15 (by omega), wx_uk, pk_us]
        · rw [wx_ur, if_neg (by omega), e4 a i (by omega) (by omega)]
        · exact wDk_fr (fun a q1 q2 => by rw [wcL_un (by omega)]; exact gF a (by omega)) (by rw [wx_ur, if_neg (by omega), e4 0 37 (by omega) (by omega)]; exact gT 0 37 (Or.inl rfl)) (fun i hi => by rw [wx_un (by omega), e4 19 i (by omega) (by omega)]; exact gT 19 i (Or.inl (by simp [wLv]; omega))) hDk
        · exact wLn_fr (fun a q1 q2 => by rw [wcL_un (by omega)]; exact gF a (by omega)) (by rw [wx_ur, if_neg (by omega), e4 0 39 (by omega) (by omega)]; exact gT 0 39 (Or.inl rfl)) (fun i hi => by rw [wx_un (by omega), e4 20 i (by omega) (by omega)]; exact gT 20 i (Or.inl (by simp [wLv]; omega))) hLn
        · have w7 : ∀ i, i < m → wcL 16 274 44 σ' (0 + 47) i = σ' 277 i := fun i hi => wcL_r3 (b := 44) hd (by omega)
          have w8 : ∀ i, i < m → wcL 16 274 44 σ' (0 + 48) i = σ' 278 i := fun i hi => wcL_r4 (b := 44) hd (by omega)
          refine ⟨m, a1, ?_, ?_, fun i hi => ?_, fun w hw => ?_⟩
          · show wcL 16 274 44 σ' 44 4 = nI m
            rw [wcL_c4 hd]; exact a4
          · rw [wx_uk, pk_us]
          · rw [w7 i hi, w8 i hi]
            exact a5.1 i hi
          · have v : (wg_u τ5 0 41 (nI m)) 21 w = τ' 21 (8 + w) := by rw [wx_un (by omega), e5 w hw]
            rw [v]
            rcases a5.2 w hw with ⟨i, i1, i2, i3, i4⟩ | ⟨i1, i2⟩
            · exact Or.inl ⟨i, i1, by rw [w7 i i1]; exact i2, fun k hk => by rw [w7 k (by omega)]; exact i3 k hk, by rw [w8 i i1]; exact i4⟩
            · exact Or.inr ⟨fun i hi => by rw [w7 i hi]; exact i1 i hi, i2⟩
        · exact wP_fr ⟨n1, n2, n3⟩ (by rw [wcL_un (by omega)]; exact gS _ _ (by omega)) (by rw [wcL_un (by omega)]; exact gS _ _ (by omega)) (fun a q1 q2 => by rw [wcL_un (by omega)]; exact gF a (by omega)) (by rw [wx_ur, if_neg (by omega), e4 0 3 (by omega) (by omega)]; exact gT 0 3 (by omega)) (fun i _ => by rw [wx_un (by omega), e4 2 i (by omega) (by omega)]; exact gT 2 i (by omega)) (fun i hi => by rw [wx_un (by omega), e4 4 i (by omega) (by omega)]; exact gT 4 i (Or.inl (by simp [wLv]; omega))) (fun i hi => by rw [wx_un (by omega), e4 5 i (by omega) (by omega)]; exact gT 5 i (Or.inl (by simp [wLv]; omega))) (fun i hi => by rw [wx_un (by omega), e4 6 i (by omega) (by omega)]; exact gT 6 i (Or.inl (by simp [wLv]; omega))) (fun i hi => by rw [wx_un (by omega), e4 7 i (by omega) (by omega)]; exact gT 7 i (Or.inl (by simp [wLv]; omega))) hP
    · refine ⟨-nI 1, σ', _, ?_, ?_, wl_txE h pN_n rfl (fun a i z => qN_n a i z) c2 (by rw [fs 260 2 (by omega)]; exact b4) T2 (wE_t (wFx_r _ _) fk a3)⟩
      · simp -implicitDefEqProofs (disch := omega) only [e_X11_text, e_X11_text__1, e_X11_text__2, e_X11_text__3, e_X11_text__4, e_X11_text__5, e_X11_within, e_X6_readLines, e_X6_readLines__1, b1, hs, a1, wx_bd, wx_let, wx_st, wx_lit, wx_ga, wx_sa, pk_mul, nI_add, wx_le, wx_lt, wx_eq, wx_en, wx_ne', wx_nn, wx_ltn, wx_len, wx_nlt, wx_nle, wx_bz0, wx_bz1, if_pos, if_neg, wx_ite, Nat.reduceEqDiff, eq_self, if_true, if_false, not_true_eq_false, not_false_eq_true]
      · simp -implicitDefEqProofs (disch := omega) only [e_X12_text, e_X12_text__1, e_X12_text__2, e_X12_text__3, e_X12_text__4, e_X12_text__5, e_X12_text__6, e_X12_text__7, e_X12_text__8, e_X12_text__9, e_X12_text__10, e_X12_text_69, e_X12_text_69__1, e_X12_text_69__2, e_X12_text_69__3, e_X12_isIn, e_X12_readsText, e_X12_readsText__1, e_X12_readsText__2, e_X12_readsText__3, e_X12_readsText__4, e_X12_readsText__5, e_X12_readsText__6, hA, r1, eK, a2, wx_uk, wx_un, pk_us, pk_un, wx_bd, wx_let, wx_st, wx_lit, wx_ga, wx_sa, pk_mul, nI_add, wx_le, wx_lt, wx_eq, wx_en, wx_ne', wx_nn, wx_ltn, wx_len, wx_nlt, wx_nle, wx_bz0, wx_bz1, if_pos, if_neg, wx_ite, Nat.reduceEqDiff, eq_self, if_true, if_false, not_true_eq_false, not_false_eq_true]

set_option maxHeartbeats 1000000 in
theorem ws_image : wp_image wR := by
  intro σ τ a0 h ha
  have h := wR_told (nI 0) h
  simp only [e_X12_image, wx_st, wx_lit]
  generalize wg_u τ 0 0 (nI 0) = τ at h ⊢
  obtain ⟨nw, nj, nc, hW, hP, hI, hD, hF⟩ := id h
  obtain ⟨n1, n2, n3, -⟩ := id hW.1
  have v3 : wLv 0 3 = false := rfl
  have e18 : ∀ m : Bool, ∃ τ', f_X12_image_18 0 (if m = true then nI 1 else nI 0) τ = some (nI 1, wIo m τ') ∧ wQi m (wg_u (wg_u (wg_u τ 0 57 (if m = true then nI 1 else nI 0)) 0 58 (nI 1)) 0 59 (nI 0)) 2007 τ' := fun m => by
    obtain ⟨τ', r1, r2⟩ := wl_im35 (m := m) (τ0 := wg_u (wg_u (wg_u τ 0 57 (if m = true then nI 1 else nI 0)) 0 58 (nI 1)) 0 59 (nI 0)) 295 0 wg_N (wg_u (wg_u (wg_u τ 0 57 (if m = true then nI 1 else nI 0)) 0 58 (nI 1)) 0 59 (nI 0)) (by omega) (by rw [wx_N]; omega) ⟨by simp -implicitDefEqProofs (disch := omega) only [wx_uk, wx_un, pk_us, pk_un], by simp -implicitDefEqProofs (disch := omega) only [wx_uk, wx_un, pk_us, pk_un], fun _ _ _ _ _ => rfl, fun _ => ⟨fun _ _ _ => rfl, fun _ _ _ q => by omega⟩, fun _ => ⟨fun _ => rfl, fun _ _ _ q => by omega⟩⟩
    refine ⟨τ', ?_, r2⟩
    cases m with
    | true => simp -implicitDefEqProofs (disch := omega) only [e_X12_image_18, e_X12_image_18__1, e_X12_image_18__2, e_X12_image_18__3, if_true, wx_bd, wx_let, wx_st, wx_lit, wx_ga, wx_sa, pk_mul, nI_add, wx_le, wx_lt, wx_eq, wx_en, wx_ne', wx_nn, wx_ltn, wx_len, wx_nlt, wx_nle, wx_bz0, wx_bz1, if_pos, if_neg, wx_ite, Nat.reduceEqDiff, eq_self, if_true, if_false, not_true_eq_false, not_false_eq_true]; exact r1
    | false => simp -implicitDefEqProofs (disch := omega) only [e_X12_image_18, e_X12_image_18__1, e_X12_image_18__2, e_X12_image_18__3, Bool.false_eq_true, wx_bd, wx_let, wx_st, wx_lit, wx_ga, wx_sa, pk_mul, nI_add, wx_le, wx_lt, wx_eq, wx_en, wx_ne', wx_nn, wx_ltn, wx_len, wx_nlt, wx_nle, wx_bz0, wx_bz1, if_pos, if_neg, wx_ite, Nat.reduceEqDiff, eq_self, if_true, if_false, not_true_eq_false, not_false_eq_true]; exact r1
  have e0 : ∀ (m : Bool) a i, ¬ (a = 0 ∧ 57 ≤ i) → wg_u (wg_u (wg_u τ 0 57 (if m = true then nI 1 else nI 0)) 0 58 (nI 1)) 0 59 (nI 0) a i = τ a i := fun m a i q => by
    rw [wx_ur, if_neg (by omega), wx_ur, if_neg (by omega), wx_ur, if_neg (by omega)]
  have lv0 : ∀ a i, wLv a i = true → ¬ (a = 0 ∧ 57 ≤ i) := fun a i hv q => by
    obtain ⟨rfl, q⟩ := q
    simp only [wLv, Bool.or_eq_true, beq_iff_eq] at hv
    omega
  rcases ha with rfl | rfl
  · rcases hI with ⟨i1, i2⟩ | ⟨i1, i2, mw, mj, mc, i3⟩
    · exact ⟨nI 0, σ, τ, by simp -implicitDefEqProofs (disch := omega) only [e_X11_image, e_X11_image__1, e_X11_image__2, e_X11_image__3, e_X11_image__4, i1, wx_bd, wx_let, wx_st, wx_lit, wx_ga, wx_sa, pk_mul, nI_add, wx_le, wx_lt, wx_eq, wx_en, wx_ne', wx_nn, wx_ltn, wx_len, wx_nlt, wx_nle, wx_bz0, wx_bz1, if_pos, if_neg, wx_ite, Nat.reduceEqDiff, eq_self, if_true, if_false, not_true_eq_false, not_false_eq_true], by simp -implicitDefEqProofs (disch := omega) only [e_X12_image, e_X12_image__1, i2, wx_bd, wx_let, wx_st, wx_lit, wx_ga, wx_sa, pk_mul, nI_add, wx_le, wx_lt, wx_eq, wx_en, wx_ne', wx_nn, wx_ltn, wx_len, wx_nlt, wx_nle, wx_bz0, wx_bz1, if_pos, if_neg, wx_ite, Nat.reduceEqDiff, eq_self, if_true, if_false, not_true_eq_false, not_false_eq_true], h⟩
    · obtain ⟨τ', r1, q1, q2, q3, -, q5⟩ := e18 false
      obtain ⟨p1, p2⟩ := q5 rfl
      simp only [Bool.false_eq_true, if_false, wIo] at r1
      have cp := wl_copyX (σ := σ) wShX_59 wShX_0 (by omega)
      have keep : ∀ a i, wLv a i = false → a ≠ 33 → ¬ (a = 0 ∧ i = 3) → ¬ (a = 0 ∧ 57 ≤ i) → wg_u τ' 0 3 (nI 0) a i = τ a i := fun a i hv h33 h3 h57 => by
        rw [wx_ur, if_neg h3, q3 a i hv h33 (by omega), e0 false a i h57]
      have im33 : wg_u τ' 0 3 (nI 0) 33 = τ 33 := by
        rw [wx_un (by omega)]
        funext i
        rw [p1 i, e0 false 33 i (by omega)]
      refine ⟨nI 1, wg_u (wcX 59 0 σ) 258 2 (nI 0), wg_u τ' 0 3 (nI 0), by simp -implicitDefEqProofs (disch := omega) only [e_X11_image, e_X11_image__1, e_X11_image__2, e_X11_image__3, e_X11_image__4, e_X5_forget, e_X5_forget__1, i1, cp, wx_bd, wx_let, wx_st, wx_lit, wx_ga, wx_sa, pk_mul, nI_add, wx_le, wx_lt, wx_eq, wx_en, wx_ne', wx_nn, wx_ltn, wx_len, wx_nlt, wx_nle, wx_bz0, wx_bz1, if_pos, if_neg, wx_ite, Nat.reduceEqDiff, eq_self, if_true, if_false, not_true_eq_false, not_false_eq_true], by simp -implicitDefEqProofs (disch := omega) only [e_X12_image, e_X12_image__1, i2, wx_bd, wx_let, wx_st, wx_lit, wx_ga, wx_sa, pk_mul, nI_add, wx_le, wx_lt, wx_eq, wx_en, wx_ne', wx_nn, wx_ltn, wx_len, wx_nlt, wx_nle, wx_bz0, wx_bz1, if_pos, if_neg, wx_ite, Nat.reduceEqDiff, eq_self, if_true, if_false, not_true_eq_false, not_false_eq_true]; exact r1, ?_⟩
      have hW' : wRW mw mj mc (wg_u (wcX 59 0 σ) 258 2 (nI 0)) 0 (wg_u τ' 0 3 (nI 0)) := wRW_fr (fun a _ _ _ _ _ => wx_un (by omega)) (fun a i hv => by
        have n3 : ¬ (a = 0 ∧ i = 3) := by rintro ⟨rfl, rfl⟩; rw [v3] at hv; cases hv
        rw [wx_ur, if_neg n3, p2 a i hv (wps_lt hv), e0 false 33 _ (by omega), wv_ps hv]) (wcX_W (by omega) i3)
      obtain ⟨n, nx, -, x2, -, x4, -, -⟩ := hP
      refine ⟨mw, mj, mc, hW', wP_0 x2 ?_ ?_ ?_, ?_, ?_, ?_⟩
      · rw [wx_ur, if_neg (by omega), wcX_un (by omega)]; exact x4
      · rw [wx_ur, if_pos ⟨rfl, rfl⟩]
      · rw [wx_ur, if_pos ⟨rfl, rfl⟩]
      · refine Or.inr ⟨by rw [wx_un (by omega), wcX_un (by omega)]; exact i1, ?_, mw, mj, mc, ?_⟩
        · rw [wx_ur, if_neg (by omega), q3 0 58 rfl (by omega) (by omega), wx_ur, if_neg (by omega), wx_ur, if_pos ⟨rfl, rfl⟩]
        · rw [wv_fr im33]
          exact wRW_fr (fun a _ _ _ _ _ => by rw [wx_un (by omega), wcX_un (by omega)]) (fun _ _ _ => rfl) i3
      · exact wRd_fr (by rw [wx_un (by omega), wcX_un (by omega)]) (by rw [wx_un (by omega), wcX_un (by omega)]) (by rw [wx_un (by omega), wcX_un (by omega)]) (by rw [wx_un (by omega), wcX_un (by omega)]) (keep 0 15 rfl (by omega) (by omega) (by omega)) (keep 0 35 rfl (by omega) (by omega) (by omega)) (keep 0 36 rfl (by omega) (by omega) (by omega)) (funext fun i => keep 9 i rfl (by omega) (by omega) (by omega)) (funext fun i => keep 10 i rfl (by omega) (by omega) (by omega)) hD
      · exact wFl_fr (by rw [wx_un (by omega), wcX_un (by omega)]) (keep 0 5 rfl (by omega) (by omega) (by omega)) hF
  · obtain ⟨τ', r1, q1, q2, q3, q4, -⟩ := e18 true
    obtain ⟨p1, p2⟩ := q4 rfl
    simp only [if_true, wIo] at r1
    have cp := wl_copyX (σ := σ) wShX_0 wShX_59 (by omega)
    have keep : ∀ a i, a ≠ 33 → ¬ (a = 0 ∧ 57 ≤ i) → τ' a i = τ a i := fun a i h33 h57 => by
      cases hv : wLv a i
      · rw [q3 a i hv h33 (by omega), e0 true a i h57]
      · rw [p1 a i hv, e0 true a i h57]
    refine ⟨nI 1, wg_u (wcX 0 59 σ) 281 6 (nI 1), τ', by simp -implicitDefEqProofs (disch := omega) only [e_X11_image, e_X11_image__1, e_X11_image__2, e_X11_image__3, e_X11_image__4, cp, wx_bd, wx_let, wx_st, wx_lit, wx_ga, wx_sa, pk_mul, nI_add, wx_le, wx_lt, wx_eq, wx_en, wx_ne', wx_nn, wx_ltn, wx_len, wx_nlt, wx_nle, wx_bz0, wx_bz1, if_pos, if_neg, wx_ite, Nat.reduceEqDiff, eq_self, if_true, if_false, not_true_eq_false, not_false_eq_true], by simp -implicitDefEqProofs (disch := omega) only [e_X12_image, e_X12_image__1, wx_bd, wx_let, wx_st, wx_lit, wx_ga, wx_sa, pk_mul, nI_add, wx_le, wx_lt, wx_eq, wx_en, wx_ne', wx_nn, wx_ltn, wx_len, wx_nlt, wx_nle, wx_bz0, wx_bz1, if_pos, if_neg, wx_ite, Nat.reduceEqDiff, eq_self, if_true, if_false, not_true_eq_false, not_false_eq_true]; exact r1, ?_⟩
    have kv : ∀ a i, wLv a i = true → τ' a i = τ a i := fun a i hv => by rw [p1 a i hv, e0 true a i (lv0 a i hv)]
    refine ⟨nw, nj, nc, ?_, ?_, ?_, ?_, ?_⟩
    · exact wRW_fr (fun a _ _ _ _ _ => by rw [wx_un (by omega), wcX_un (by omega)]) kv hW
    · exact wP_fr ⟨n1, n2, n3⟩ (by rw [wx_un (by omega), wcX_un (by omega)]) (by rw [wx_un (by omega), wcX_un (by omega)]) (fun a _ _ => by rw [wx_un (by omega), wcX_un (by omega)]) (keep 0 3 (by omega) (by omega)) (fun i _ => keep 2 i (by omega) (by omega)) (fun i _ => keep 4 i (by omega) (by omega)) (fun i _ => keep 5 i (by omega) (by omega)) (fun i _ => keep 6 i (by omega) (by omega)) (fun i _ => keep 7 i (by omega) (by omega)) hP
    · refine Or.inr ⟨by rw [wx_ur, if_pos ⟨rfl, rfl⟩], ?_, nw, nj, nc, ?_⟩
      · rw [q3 0 58 rfl (by omega) (by omega), wx_ur, if_neg (by omega), wx_ur, if_pos ⟨rfl, rfl⟩]
      · exact wRW_fr (fun a _ _ _ _ _ => wx_un (by omega)) (fun a i hv => by rw [wv_ps hv, p2 a i hv (wps_lt hv), e0 true a i (lv0 a i hv)]) (wcX_W (b := 59) (by omega) hW)
    · exact wRd_fr (by rw [wx_un (by omega), wcX_un (by omega)]) (by rw [wx_un (by omega), wcX_un (by omega)]) (by rw [wx_un (by omega), wcX_un (by omega)]) (by rw [wx_un (by omega), wcX_un (by omega)]) (keep 0 15 (by omega) (by omega)) (keep 0 35 (by omega) (by omega)) (keep 0 36 (by omega) (by omega)) (funext fun i => keep 9 i (by omega) (by omega)) (funext fun i => keep 10 i (by omega) (by omega)) hD
    · exact wFl_fr (by rw [wx_un (by omega), wcX_un (by omega)]) (keep 0 5 (by omega) (by omega)) hF

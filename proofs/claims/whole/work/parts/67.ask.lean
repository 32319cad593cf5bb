/-! questions -/
set_option maxHeartbeats 1000000 in
theorem wR_s {σ τ σ' τ' : wg_M} (h : wR σ τ) (h1 : wSc σ σ') (h2 : wSm τ τ') : wR σ' τ' := by
  refine wR_fr (fun a _ q1 q2 _ => h1 a q1 q2) (fun a i q => ?_) h
  rw [h2 a (fun e => by subst e; simp [wLq, wLv] at q) (fun e => by subst e; simp [wLq, wLv] at q)]
set_option maxHeartbeats 1000000 in
theorem wx_sw_k {α : Type} (k : Nat) {cs : List (Option α)} {D A : Option α} (h : cs[k]? = some A) (hl : k < 1000) : wg_sw (nI k) 0 cs D = A := by
  have hk : k < cs.length := (List.getElem?_eq_some_iff.mp h).1
  unfold wg_sw
  rw [nI_toInt (by omega), if_neg (by omega)]
  rw [show ((k : Int) - 0).toNat = k by omega, List.getD_eq_getElem?_getD, h]
  rfl
set_option maxHeartbeats 1000000 in
theorem wx_swk0 {α : Type} {A0 D : Option α} {cs : List (Option α)} : wg_sw (nI 0) 0 (A0 :: cs) D = A0 := wx_sw_k 0 rfl (by omega)
set_option maxHeartbeats 1000000 in
theorem wx_swk1 {α : Type} {A0 A1 D : Option α} {cs : List (Option α)} : wg_sw (nI 1) 0 (A0 :: A1 :: cs) D = A1 := wx_sw_k 1 rfl (by omega)
set_option maxHeartbeats 1000000 in
theorem wx_swk2 {α : Type} {A0 A1 A2 D : Option α} {cs : List (Option α)} : wg_sw (nI 2) 0 (A0 :: A1 :: A2 :: cs) D = A2 := wx_sw_k 2 rfl (by omega)
set_option maxHeartbeats 1000000 in
theorem wx_swk3 {α : Type} {A0 A1 A2 A3 D : Option α} {cs : List (Option α)} : wg_sw (nI 3) 0 (A0 :: A1 :: A2 :: A3 :: cs) D = A3 := wx_sw_k 3 rfl (by omega)
set_option maxHeartbeats 1000000 in
theorem wx_swk4 {α : Type} {A0 A1 A2 A3 A4 D : Option α} {cs : List (Option α)} : wg_sw (nI 4) 0 (A0 :: A1 :: A2 :: A3 :: A4 :: cs) D = A4 := wx_sw_k 4 rfl (by omega)
set_option maxHeartbeats 1000000 in
theorem wx_swk5 {α : Type} {A0 A1 A2 A3 A4 A5 D : Option α} {cs : List (Option α)} : wg_sw (nI 5) 0 (A0 :: A1 :: A2 :: A3 :: A4 :: A5 :: cs) D = A5 := wx_sw_k 5 rfl (by omega)
set_option maxHeartbeats 1000000 in
theorem wx_swk6 {α : Type} {A0 A1 A2 A3 A4 A5 A6 D : Option α} {cs : List (Option α)} : wg_sw (nI 6) 0 (A0 :: A1 :: A2 :: A3 :: A4 :: A5 :: A6 :: cs) D = A6 := wx_sw_k 6 rfl (by omega)
set_option maxHeartbeats 1000000 in
theorem wx_swk7 {α : Type} {A0 A1 A2 A3 A4 A5 A6 A7 D : Option α} {cs : List (Option α)} : wg_sw (nI 7) 0 (A0 :: A1 :: A2 :: A3 :: A4 :: A5 :: A6 :: A7 :: cs) D = A7 := wx_sw_k 7 rfl (by omega)
set_option maxHeartbeats 1000000 in
theorem ws_look : wp_look wR := by
  intro σ τ a0 h
  have h := wR_told (nI 0) h
  simp only [e_X12_look, wx_st, wx_lit]
  simp -implicitDefEqProofs only [e_X12_look__1, wx_lit]
  generalize wg_u τ 0 0 (nI 0) = τ at h ⊢
  obtain ⟨nw, nj, nc, ⟨h1, h2, h3, h4, h5⟩, hP, hI, hD, hF⟩ := id h
  obtain ⟨n1, n2, n3, n4, n5, n6⟩ := id h1
  obtain ⟨rd, d1, d2⟩ := wl_deadSet h2 h1
  obtain ⟨ro, o1, o2⟩ := wl_openSet h2 h1
  obtain ⟨nl, -, l1, l2, -⟩ := id h5.1
  obtain ⟨ndk, -, k1, k2, -⟩ := id h5.2.1
  obtain ⟨nln, -, q1, q2, -⟩ := id h5.2.2.1
  obtain ⟨nkn, -, g1, g2, -⟩ := id h5.2.2.2.1
  obtain ⟨np, nx, -, -, p1, -, p2, -⟩ := id hP
  have l1 : σ 26 6 = nI nl := l1
  have k1 : σ 34 4 = nI ndk := k1
  have q1 : σ 39 4 = nI nln := q1
  have g1 : σ 44 4 = nI nkn := g1
  rcases wx_cs a0 13 with ⟨k, hk, rfl⟩ | hout
  · rcases (show k = 0 ∨ k = 1 ∨ k = 2 ∨ k = 3 ∨ k = 4 ∨ k = 5 ∨ k = 6 ∨ k = 7 ∨ k = 8 ∨ k = 9 ∨ k = 10 ∨ k = 11 ∨ k = 12 by omega) with rfl | rfl | rfl | rfl | rfl | rfl | rfl | rfl | rfl | rfl | rfl | rfl | rfl
    · refine ⟨nI nw, σ, τ, ?_, ?_, h⟩
      · rw [e_X11_look, wx_sw_k 0 rfl (by omega)]
        simp -implicitDefEqProofs only [wb_nw h2, e_X11_look, e_X11_look__1, e_X11_look__2, wx_bd]
      · simp -implicitDefEqProofs (disch := omega) only [n4, e_X12_look, e_X12_look__1, e_X12_look__2, e_X12_look__3, e_X12_look__4, e_X12_look__5, e_X12_look__6, e_X12_look__7, wx_bd, wx_let, wx_st, wx_lit, wx_ga, wx_sa, pk_mul, nI_add, wx_le, wx_lt, wx_eq, wx_en, wx_ne', wx_nn, wx_ltn, wx_len, wx_nlt, wx_nle, wx_bz0, wx_bz1, if_pos, if_neg, wx_ite, Nat.reduceEqDiff, eq_self, if_true, if_false, not_true_eq_false, not_false_eq_true]
    · refine ⟨nI nj, σ, τ, ?_, ?_, h⟩
      · rw [e_X11_look, wx_sw_k 1 rfl (by omega)]
        simp -implicitDefEqProofs only [wb_nj h2, e_X11_look, e_X11_look__1, e_X11_look__2, wx_bd]
      · simp -implicitDefEqProofs (disch := omega) only [n5, e_X12_look, e_X12_look__1, e_X12_look__2, e_X12_look__3, e_X12_look__4, e_X12_look__5, e_X12_look__6, e_X12_look__7, wx_bd, wx_let, wx_st, wx_lit, wx_ga, wx_sa, pk_mul, nI_add, wx_le, wx_lt, wx_eq, wx_en, wx_ne', wx_nn, wx_ltn, wx_len, wx_nlt, wx_nle, wx_bz0, wx_bz1, if_pos, if_neg, wx_ite, Nat.reduceEqDiff, eq_self, if_true, if_false, not_true_eq_false, not_false_eq_true]
    · refine ⟨nI nc, σ, τ, ?_, ?_, h⟩
      · rw [e_X11_look, wx_sw_k 2 rfl (by omega)]
        simp -implicitDefEqProofs only [wb_nc h2, e_X11_look, e_X11_look__1, e_X11_look__2, wx_bd]
      · simp -implicitDefEqProofs (disch := omega) only [n6, e_X12_look, e_X12_look__1, e_X12_look__2, e_X12_look__3, e_X12_look__4, e_X12_look__5, e_X12_look__6, e_X12_look__7, wx_bd, wx_let, wx_st, wx_lit, wx_ga, wx_sa, pk_mul, nI_add, wx_le, wx_lt, wx_eq, wx_en, wx_ne', wx_nn, wx_ltn, wx_len, wx_nlt, wx_nle, wx_bz0, wx_bz1, if_pos, if_neg, wx_ite, Nat.reduceEqDiff, eq_self, if_true, if_false, not_true_eq_false, not_false_eq_true]
    · refine ⟨τ 1 0, σ, τ, ?_, ?_, h⟩
      · rw [e_X11_look, wx_sw_k 3 rfl (by omega)]
        simp -implicitDefEqProofs only [wb_year h2, e_X11_look, e_X11_look__1, e_X11_look__2, wx_bd]
      · simp -implicitDefEqProofs (disch := omega) only [e_X12_look, e_X12_look__1, e_X12_look__2, e_X12_look__3, e_X12_look__4, e_X12_look__5, e_X12_look__6, e_X12_look__7, wx_bd, wx_let, wx_st, wx_lit, wx_ga, wx_sa, pk_mul, nI_add, wx_le, wx_lt, wx_eq, wx_en, wx_ne', wx_nn, wx_ltn, wx_len, wx_nlt, wx_nle, wx_bz0, wx_bz1, if_pos, if_neg, wx_ite, Nat.reduceEqDiff, eq_self, if_true, if_false, not_true_eq_false, not_false_eq_true]
    · refine ⟨rd, σ, τ, ?_, ?_, h⟩
      · rw [e_X11_look, wx_sw_k 4 rfl (by omega)]
        simp -implicitDefEqProofs only [d1, e_X11_look, e_X11_look__1, e_X11_look__2, wx_bd]
      · simp -implicitDefEqProofs (disch := omega) only [d2, e_X12_look, e_X12_look__1, e_X12_look__2, e_X12_look__3, e_X12_look__4, e_X12_look__5, e_X12_look__6, e_X12_look__7, wx_bd, wx_let, wx_st, wx_lit, wx_ga, wx_sa, pk_mul, nI_add, wx_le, wx_lt, wx_eq, wx_en, wx_ne', wx_nn, wx_ltn, wx_len, wx_nlt, wx_nle, wx_bz0, wx_bz1, if_pos, if_neg, wx_ite, Nat.reduceEqDiff, eq_self, if_true, if_false, not_true_eq_false, not_false_eq_true]
    · refine ⟨ro, σ, τ, ?_, ?_, h⟩
      · rw [e_X11_look, wx_sw_k 5 rfl (by omega)]
        simp -implicitDefEqProofs only [o1, e_X11_look, e_X11_look__1, e_X11_look__2, wx_bd]
      · simp -implicitDefEqProofs (disch := omega) only [o2, e_X12_look, e_X12_look__1, e_X12_look__2, e_X12_look__3, e_X12_look__4, e_X12_look__5, e_X12_look__6, e_X12_look__7, wx_bd, wx_let, wx_st, wx_lit, wx_ga, wx_sa, pk_mul, nI_add, wx_le, wx_lt, wx_eq, wx_en, wx_ne', wx_nn, wx_ltn, wx_len, wx_nlt, wx_nle, wx_bz0, wx_bz1, if_pos, if_neg, wx_ite, Nat.reduceEqDiff, eq_self, if_true, if_false, not_true_eq_false, not_false_eq_true]
    · refine ⟨τ 1 2, σ, τ, ?_, ?_, h⟩
      · rw [e_X11_look, wx_sw_k 6 rfl (by omega)]
        simp -implicitDefEqProofs only [wb_lines h2, e_X11_look, e_X11_look__1, e_X11_look__2, wx_bd]
      · simp -implicitDefEqProofs (disch := omega) only [e_X12_look, e_X12_look__1, e_X12_look__2, e_X12_look__3, e_X12_look__4, e_X12_look__5, e_X12_look__6, e_X12_look__7, wx_bd, wx_let, wx_st, wx_lit, wx_ga, wx_sa, pk_mul, nI_add, wx_le, wx_lt, wx_eq, wx_en, wx_ne', wx_nn, wx_ltn, wx_len, wx_nlt, wx_nle, wx_bz0, wx_bz1, if_pos, if_neg, wx_ite, Nat.reduceEqDiff, eq_self, if_true, if_false, not_true_eq_false, not_false_eq_true]
    · refine ⟨τ 1 1, σ, τ, ?_, ?_, h⟩
      · rw [e_X11_look, wx_sw_k 7 rfl (by omega)]
        simp -implicitDefEqProofs only [wb_draws h2, e_X11_look, e_X11_look__1, e_X11_look__2, wx_bd]
      · simp -implicitDefEqProofs (disch := omega) only [e_X12_look, e_X12_look__1, e_X12_look__2, e_X12_look__3, e_X12_look__4, e_X12_look__5, e_X12_look__6, e_X12_look__7, wx_bd, wx_let, wx_st, wx_lit, wx_ga, wx_sa, pk_mul, nI_add, wx_le, wx_lt, wx_eq, wx_en, wx_ne', wx_nn, wx_ltn, wx_len, wx_nlt, wx_nle, wx_bz0, wx_bz1, if_pos, if_neg, wx_ite, Nat.reduceEqDiff, eq_self, if_true, if_false, not_true_eq_false, not_false_eq_true]
    · refine ⟨nI nl, σ, τ, ?_, ?_, h⟩
      · rw [e_X11_look, wx_sw_k 8 rfl (by omega)]
        simp -implicitDefEqProofs only [l1, e_X11_look, e_X11_look__1, e_X11_look__2, wx_bd]
      · simp -implicitDefEqProofs (disch := omega) only [l2, e_X12_look, e_X12_look__1, e_X12_look__2, e_X12_look__3, e_X12_look__4, e_X12_look__5, e_X12_look__6, e_X12_look__7, wx_bd, wx_let, wx_st, wx_lit, wx_ga, wx_sa, pk_mul, nI_add, wx_le, wx_lt, wx_eq, wx_en, wx_ne', wx_nn, wx_ltn, wx_len, wx_nlt, wx_nle, wx_bz0, wx_bz1, if_pos, if_neg, wx_ite, Nat.reduceEqDiff, eq_self, if_true, if_false, not_true_eq_false, not_false_eq_true]
    · refine ⟨nI ndk, σ, τ, ?_, ?_, h⟩
      · rw [e_X11_look, wx_sw_k 9 rfl (by omega)]
        simp -implicitDefEqProofs only [k1, e_X11_look, e_X11_look__1, e_X11_look__2, wx_bd]
      · simp -implicitDefEqProofs (disch := omega) only [k2, e_X12_look, e_X12_look__1, e_X12_look__2, e_X12_look__3, e_X12_look__4, e_X12_look__5, e_X12_look__6, e_X12_look__7, wx_bd, wx_let, wx_st, wx_lit, wx_ga, wx_sa, pk_mul, nI_add, wx_le, wx_lt, wx_eq, wx_en, wx_ne', wx_nn, wx_ltn, wx_len, wx_nlt, wx_nle, wx_bz0, wx_bz1, if_pos, if_neg, wx_ite, Nat.reduceEqDiff, eq_self, if_true, if_false, not_true_eq_false, not_false_eq_true]
    · refine ⟨nI nln, σ, τ, ?_, ?_, h⟩
      · rw [e_X11_look, wx_sw_k 10 rfl (by omega)]
        simp -implicitDefEqProofs only [q1, e_X11_look, e_X11_look__1, e_X11_look__2, wx_bd]
      · simp -implicitDefEqProofs (disch := omega) only [q2, e_X12_look, e_X12_look__1, e_X12_look__2, e_X12_look__3, e_X12_look__4, e_X12_look__5, e_X12_look__6, e_X12_look__7, wx_bd, wx_let, wx_st, wx_lit, wx_ga, wx_sa, pk_mul, nI_add, wx_le, wx_lt, wx_eq, wx_en, wx_ne', wx_nn, wx_ltn, wx_len, wx_nlt, wx_nle, wx_bz0, wx_bz1, if_pos, if_neg, wx_ite, Nat.reduceEqDiff, eq_self, if_true, if_false, not_true_eq_false, not_false_eq_true]
    · refine ⟨nI nkn, σ, τ, ?_, ?_, h⟩
      · rw [e_X11_look, wx_sw_k 11 rfl (by omega)]
        simp -implicitDefEqProofs only [g1, e_X11_look, e_X11_look__1, e_X11_look__2, wx_bd]
      · simp -implicitDefEqProofs (disch := omega) only [g2, e_X12_look, e_X12_look__1, e_X12_look__2, e_X12_look__3, e_X12_look__4, e_X12_look__5, e_X12_look__6, e_X12_look__7, wx_bd, wx_let, wx_st, wx_lit, wx_ga, wx_sa, pk_mul, nI_add, wx_le, wx_lt, wx_eq, wx_en, wx_ne', wx_nn, wx_ltn, wx_len, wx_nlt, wx_nle, wx_bz0, wx_bz1, if_pos, if_neg, wx_ite, Nat.reduceEqDiff, eq_self, if_true, if_false, not_true_eq_false, not_false_eq_true]
    · refine ⟨nI np, σ, τ, ?_, ?_, h⟩
      · rw [e_X11_look, wx_sw_k 12 rfl (by omega)]
        simp -implicitDefEqProofs only [p1, e_X11_look, e_X11_look__1, e_X11_look__2, wx_bd]
      · simp -implicitDefEqProofs (disch := omega) only [p2, e_X12_look, e_X12_look__1, e_X12_look__2, e_X12_look__3, e_X12_look__4, e_X12_look__5, e_X12_look__6, e_X12_look__7, wx_bd, wx_let, wx_st, wx_lit, wx_ga, wx_sa, pk_mul, nI_add, wx_le, wx_lt, wx_eq, wx_en, wx_ne', wx_nn, wx_ltn, wx_len, wx_nlt, wx_nle, wx_bz0, wx_bz1, if_pos, if_neg, wx_ite, Nat.reduceEqDiff, eq_self, if_true, if_false, not_true_eq_false, not_false_eq_true]
  · refine ⟨-nI 1, σ, τ, ?_, ?_, h⟩
    · rw [e_X11_look, wx_sw_out (fun k hk => hout k (by simpa using hk)) (by simp)]; rfl
    · have o0 : ¬ a0 = nI 0 := hout 0 (by omega)
      have o1 : ¬ a0 = nI 1 := hout 1 (by omega)
      have o2 : ¬ a0 = nI 2 := hout 2 (by omega)
      have o3 : ¬ a0 = nI 3 := hout 3 (by omega)
      have o4 : ¬ a0 = nI 4 := hout 4 (by omega)
      have o5 : ¬ a0 = nI 5 := hout 5 (by omega)
      have o6 : ¬ a0 = nI 6 := hout 6 (by omega)
      have o7 : ¬ a0 = nI 7 := hout 7 (by omega)
      have o8 : ¬ a0 = nI 8 := hout 8 (by omega)
      have o9 : ¬ a0 = nI 9 := hout 9 (by omega)
      have o10 : ¬ a0 = nI 10 := hout 10 (by omega)
      have o11 : ¬ a0 = nI 11 := hout 11 (by omega)
      have o12 : ¬ a0 = nI 12 := hout 12 (by omega)
      simp only [o0, o1, o2, o3, o4, o5, o6, o7, o8, o9, o10, o11, o12, if_false]
set_option maxHeartbeats 1000000 in
theorem ws_trialOf : wp_trialOf wR := by
  intro σ τ a0 a1 h
  have h := wR_told (nI 0) h
  simp only [e_X12_trialOf, wx_st, wx_lit]
  simp -implicitDefEqProofs only [e_X12_trialOf__1, wx_lit]
  generalize wg_u τ 0 0 (nI 0) = τ at h ⊢
  obtain ⟨nw, nj, nc, ⟨h1, h2, h3, h4, h5⟩, hP, hI, hD, hF⟩ := id h
  obtain ⟨n1, n2, n3, n4, n5, n6⟩ := id h1
  rcases wk_tri (wb_nc h2) n6 n3 a0 with ⟨c1, c2⟩ | ⟨c, hc, rfl, c1, c2⟩
  · exact ⟨-nI 100000, σ, τ, by simp -implicitDefEqProofs (disch := omega) only [e_X11_trialOf, e_X11_trialOf__1, e_X11_trialOf__2, e_X11_trialOf__3, e_X11_trialOf__4, e_X11_trialOf__5, c1, wx_bd, wx_let, wx_st, wx_lit, wx_ga, wx_sa, pk_mul, nI_add, wx_le, wx_lt, wx_eq, wx_en, wx_ne', wx_nn, wx_ltn, wx_len, wx_nlt, wx_nle, wx_bz0, wx_bz1, if_pos, if_neg, wx_ite, Nat.reduceEqDiff, eq_self, if_true, if_false, not_true_eq_false, not_false_eq_true], by simp -implicitDefEqProofs (disch := omega) only [e_X12_trialOf, e_X12_trialOf__1, e_X12_trialOf__2, e_X12_trialOf__3, e_X12_trialOf__4, e_X12_trialOf__5, e_X12_trialOf__6, e_X12_trialOf__7, c2, wx_bd, wx_let, wx_st, wx_lit, wx_ga, wx_sa, pk_mul, nI_add, wx_le, wx_lt, wx_eq, wx_en, wx_ne', wx_nn, wx_ltn, wx_len, wx_nlt, wx_nle, wx_bz0, wx_bz1, if_pos, if_neg, wx_ite, Nat.reduceEqDiff, eq_self, if_true, if_false, not_true_eq_false, not_false_eq_true], h⟩
  · have e17 := wb_ccause h2 hc
    have e18 := wb_merit h2 hc
    have e20 := wb_by h2 hc
    rcases wx_cs a1 4 with ⟨k, hk, rfl⟩ | hout
    · rcases (show k = 0 ∨ k = 1 ∨ k = 2 ∨ k = 3 by omega) with rfl | rfl | rfl | rfl
      · exact ⟨τ 6 c, σ, τ, by simp -implicitDefEqProofs (disch := omega) only [e_X11_trialOf, e_X11_trialOf__1, e_X11_trialOf__2, e_X11_trialOf__3, e_X11_trialOf__4, e_X11_trialOf__5, c1, wx_swk0, e17, wx_bd, wx_let, wx_st, wx_lit, wx_ga, wx_sa, pk_mul, nI_add, wx_le, wx_lt, wx_eq, wx_en, wx_ne', wx_nn, wx_ltn, wx_len, wx_nlt, wx_nle, wx_bz0, wx_bz1, if_pos, if_neg, wx_ite, Nat.reduceEqDiff, eq_self, if_true, if_false, not_true_eq_false, not_false_eq_true], by simp -implicitDefEqProofs (disch := omega) only [e_X12_trialOf, e_X12_trialOf__1, e_X12_trialOf__2, e_X12_trialOf__3, e_X12_trialOf__4, e_X12_trialOf__5, e_X12_trialOf__6, e_X12_trialOf__7, c2, wx_bd, wx_let, wx_st, wx_lit, wx_ga, wx_sa, pk_mul, nI_add, wx_le, wx_lt, wx_eq, wx_en, wx_ne', wx_nn, wx_ltn, wx_len, wx_nlt, wx_nle, wx_bz0, wx_bz1, if_pos, if_neg, wx_ite, Nat.reduceEqDiff, eq_self, if_true, if_false, not_true_eq_false, not_false_eq_true], h⟩
      · exact ⟨τ 7 c, σ, τ, by simp -implicitDefEqProofs (disch := omega) only [e_X11_trialOf, e_X11_trialOf__1, e_X11_trialOf__2, e_X11_trialOf__3, e_X11_trialOf__4, e_X11_trialOf__5, c1, wx_swk1, e18, wx_bd, wx_let, wx_st, wx_lit, wx_ga, wx_sa, pk_mul, nI_add, wx_le, wx_lt, wx_eq, wx_en, wx_ne', wx_nn, wx_ltn, wx_len, wx_nlt, wx_nle, wx_bz0, wx_bz1, if_pos, if_neg, wx_ite, Nat.reduceEqDiff, eq_self, if_true, if_false, not_true_eq_false, not_false_eq_true], by simp -implicitDefEqProofs (disch := omega) only [e_X12_trialOf, e_X12_trialOf__1, e_X12_trialOf__2, e_X12_trialOf__3, e_X12_trialOf__4, e_X12_trialOf__5, e_X12_trialOf__6, e_X12_trialOf__7, c2, wx_bd, wx_let, wx_st, wx_lit, wx_ga, wx_sa, pk_mul, nI_add, wx_le, wx_lt, wx_eq, wx_en, wx_ne', wx_nn, wx_ltn, wx_len, wx_nlt, wx_nle, wx_bz0, wx_bz1, if_pos, if_neg, wx_ite, Nat.reduceEqDiff, eq_self, if_true, if_false, not_true_eq_false, not_false_eq_true], h⟩
      · rcases wb_verdict h2 hc with ⟨v1, v2⟩ | ⟨n, v1, v2, v3, v4⟩
        · exact ⟨-nI 10000, σ, τ, by simp -implicitDefEqProofs (disch := omega) only [e_X11_trialOf, e_X11_trialOf__1, e_X11_trialOf__2, e_X11_trialOf__3, e_X11_trialOf__4, e_X11_trialOf__5, c1, wx_swk2, v2, wx_bd, wx_let, wx_st, wx_lit, wx_ga, wx_sa, pk_mul, nI_add, wx_le, wx_lt, wx_eq, wx_en, wx_ne', wx_nn, wx_ltn, wx_len, wx_nlt, wx_nle, wx_bz0, wx_bz1, if_pos, if_neg, wx_ite, Nat.reduceEqDiff, eq_self, if_true, if_false, not_true_eq_false, not_false_eq_true], by simp -implicitDefEqProofs (disch := omega) only [e_X12_trialOf, e_X12_trialOf__1, e_X12_trialOf__2, e_X12_trialOf__3, e_X12_trialOf__4, e_X12_trialOf__5, e_X12_trialOf__6, e_X12_trialOf__7, c2, v1, wx_bd, wx_let, wx_st, wx_lit, wx_ga, wx_sa, pk_mul, nI_add, wx_le, wx_lt, wx_eq, wx_en, wx_ne', wx_nn, wx_ltn, wx_len, wx_nlt, wx_nle, wx_bz0, wx_bz1, if_pos, if_neg, wx_ite, Nat.reduceEqDiff, eq_self, if_true, if_false, not_true_eq_false, not_false_eq_true], h⟩
        · exact ⟨nI n - nI 1000, σ, τ, by simp -implicitDefEqProofs (disch := omega) only [e_X11_trialOf, e_X11_trialOf__1, e_X11_trialOf__2, e_X11_trialOf__3, e_X11_trialOf__4, e_X11_trialOf__5, c1, wx_swk2, v4, wx_bd, wx_let, wx_st, wx_lit, wx_ga, wx_sa, pk_mul, nI_add, wx_le, wx_lt, wx_eq, wx_en, wx_ne', wx_nn, wx_ltn, wx_len, wx_nlt, wx_nle, wx_bz0, wx_bz1, if_pos, if_neg, wx_ite, Nat.reduceEqDiff, eq_self, if_true, if_false, not_true_eq_false, not_false_eq_true], by simp -implicitDefEqProofs (disch := omega) only [e_X12_trialOf, e_X12_trialOf__1, e_X12_trialOf__2, e_X12_trialOf__3, e_X12_trialOf__4, e_X12_trialOf__5, e_X12_trialOf__6, e_X12_trialOf__7, c2, v3, wx_bd, wx_let, wx_st, wx_lit, wx_ga, wx_sa, pk_mul, nI_add, wx_le, wx_lt, wx_eq, wx_en, wx_ne', wx_nn, wx_ltn, wx_len, wx_nlt, wx_nle, wx_bz0, wx_bz1, if_pos, if_neg, wx_ite, Nat.reduceEqDiff, eq_self, if_true, if_false, not_true_eq_false, not_false_eq_true], h⟩
      · exact ⟨τ 1 (281 + c) - nI 1, σ, τ, by simp -implicitDefEqProofs (disch := omega) only [e_X11_trialOf, e_X11_trialOf__1, e_X11_trialOf__2, e_X11_trialOf__3, e_X11_trialOf__4, e_X11_trialOf__5, c1, wx_swk3, e20, wx_bd, wx_let, wx_st, wx_lit, wx_ga, wx_sa, pk_mul, nI_add, wx_le, wx_lt, wx_eq, wx_en, wx_ne', wx_nn, wx_ltn, wx_len, wx_nlt, wx_nle, wx_bz0, wx_bz1, if_pos, if_neg, wx_ite, Nat.reduceEqDiff, eq_self, if_true, if_false, not_true_eq_false, not_false_eq_true], by simp -implicitDefEqProofs (disch := omega) only [e_X12_trialOf, e_X12_trialOf__1, e_X12_trialOf__2, e_X12_trialOf__3, e_X12_trialOf__4, e_X12_trialOf__5, e_X12_trialOf__6, e_X12_trialOf__7, c2, wx_bd, wx_let, wx_st, wx_lit, wx_ga, wx_sa, pk_mul, nI_add, wx_le, wx_lt, wx_eq, wx_en, wx_ne', wx_nn, wx_ltn, wx_len, wx_nlt, wx_nle, wx_bz0, wx_bz1, if_pos, if_neg, wx_ite, Nat.reduceEqDiff, eq_self, if_true, if_false, not_true_eq_false, not_false_eq_true], h⟩
    · have o0 : ¬ a1 = nI 0 := hout 0 (by omega)
      have o1 : ¬ a1 = nI 1 := hout 1 (by omega)
      have o2 : ¬ a1 = nI 2 := hout 2 (by omega)
      have o3 : ¬ a1 = nI 3 := hout 3 (by omega)
      refine ⟨-nI 100000, σ, τ, ?_, by simp -implicitDefEqProofs (disch := omega) only [e_X12_trialOf, e_X12_trialOf__1, e_X12_trialOf__2, e_X12_trialOf__3, e_X12_trialOf__4, e_X12_trialOf__5, e_X12_trialOf__6, e_X12_trialOf__7, c2, o0, o1, o2, o3, wx_bd, wx_let, wx_st, wx_lit, wx_ga, wx_sa, pk_mul, nI_add, wx_le, wx_lt, wx_eq, wx_en, wx_ne', wx_nn, wx_ltn, wx_len, wx_nlt, wx_nle, wx_bz0, wx_bz1, if_pos, if_neg, wx_ite, Nat.reduceEqDiff, eq_self, if_true, if_false, not_true_eq_false, not_false_eq_true], h⟩
      rw [e_X11_trialOf, c1]
      simp -implicitDefEqProofs (disch := omega) only [wx_bd, e_X11_trialOf__1, wx_bd, wx_let, wx_st, wx_lit, wx_ga, wx_sa, pk_mul, nI_add, wx_le, wx_lt, wx_eq, wx_en, wx_ne', wx_nn, wx_ltn, wx_len, wx_nlt, wx_nle, wx_bz0, wx_bz1, if_pos, if_neg, wx_ite, Nat.reduceEqDiff, eq_self, if_true, if_false, not_true_eq_false, not_false_eq_true]
      exact wx_sw_out (fun k hk => hout k (by simpa using hk)) (by simp)
set_option maxHeartbeats 1000000 in
theorem ws_book : wp_book wR := by
  intro σ τ a0 a1 h
  have h := wR_told (nI 0) h
  simp only [e_X12_book, wx_st, wx_lit]
  simp -implicitDefEqProofs only [e_X12_book__1, wx_lit]
  generalize wg_u τ 0 0 (nI 0) = τ at h ⊢
  obtain ⟨nw, nj, nc, ⟨h1, h2, h3, h4, h5⟩, hP, hI, hD, hF⟩ := id h
  obtain ⟨n1, n2, n3, n4, n5, n6⟩ := id h1
  obtain ⟨l, l1, l2⟩ := h2.1.2.2.2.2.2.2
  have e9 := wb_lines h2
  rw [l2] at e9
  simp -implicitDefEqProofs (disch := omega) only [e_X12_book, e_X12_book__1, e_X12_book__2, e_X12_book__3, e_X12_book__4, e_X12_book__5, l2, wx_bd, wx_let, wx_st, wx_lit, wx_ga, wx_sa, pk_mul, nI_add, wx_le, wx_lt, wx_eq, wx_en, wx_ne', wx_nn, wx_ltn, wx_len, wx_nlt, wx_nle, wx_bz0, wx_bz1, if_pos, if_neg, wx_ite, Nat.reduceEqDiff, eq_self, if_true, if_false, not_true_eq_false, not_false_eq_true]
  rcases Nat.eq_zero_or_pos l with z | z
  · subst z
    have hw : ∀ s, f_X11_within a0 (nI 0) (-nI 1) s = some (nI 0, s) ∧ f_X12_isIn 0 a0 (nI 0) (-nI 1) s = some (nI 0, s) := by
      intro s
      rw [e_X11_within, e_X12_isIn]
      by_cases c : a0 < nI 0
      · simp only [c, if_true, wx_lit, and_self]
      · have c2 : -nI 1 < a0 := by
          rw [Int32.lt_iff_toInt_lt, nI_toInt (by omega)] at c
          rw [Int32.lt_iff_toInt_lt, wx_neg_toInt (by omega)]
          omega
        simp only [c, c2, if_true, if_false, wx_lit, and_self]
    exact ⟨-nI 10000, σ, τ, by simp -implicitDefEqProofs (disch := omega) only [e_X11_book, e_X11_book__1, e_X11_book__2, e_X11_book__3, e_X11_book__4, e_X11_book__5, e9, wx_m1, (hw σ).1, wx_bd, wx_let, wx_st, wx_lit, wx_ga, wx_sa, pk_mul, nI_add, wx_le, wx_lt, wx_eq, wx_en, wx_ne', wx_nn, wx_ltn, wx_len, wx_nlt, wx_nle, wx_bz0, wx_bz1, if_pos, if_neg, wx_ite, Nat.reduceEqDiff, eq_self, if_true, if_false, not_true_eq_false, not_false_eq_true], by simp -implicitDefEqProofs (disch := omega) only [e_X12_book, e_X12_book__1, e_X12_book__2, e_X12_book__3, e_X12_book__4, e_X12_book__5, wx_m1, (hw τ).2, wx_bd, wx_let, wx_st, wx_lit, wx_ga, wx_sa, pk_mul, nI_add, wx_le, wx_lt, wx_eq, wx_en, wx_ne', wx_nn, wx_ltn, wx_len, wx_nlt, wx_nle, wx_bz0, wx_bz1, if_pos, if_neg, wx_ite, Nat.reduceEqDiff, eq_self, if_true, if_false, not_true_eq_false, not_false_eq_true], h⟩
  · have el : nI l - nI 1 = nI (l - 1) := pk_sub z
    rcases wk_in a0 0 (l - 1) (by omega) (by omega) with ⟨i1, i2⟩ | ⟨i, i1, i2, rfl, i3, i4⟩
    · exact ⟨-nI 10000, σ, τ, by simp -implicitDefEqProofs (disch := omega) only [e_X11_book, e_X11_book__1, e_X11_book__2, e_X11_book__3, e_X11_book__4, e_X11_book__5, e9, el, i1, wx_bd, wx_let, wx_st, wx_lit, wx_ga, wx_sa, pk_mul, nI_add, wx_le, wx_lt, wx_eq, wx_en, wx_ne', wx_nn, wx_ltn, wx_len, wx_nlt, wx_nle, wx_bz0, wx_bz1, if_pos, if_neg, wx_ite, Nat.reduceEqDiff, eq_self, if_true, if_false, not_true_eq_false, not_false_eq_true], by simp -implicitDefEqProofs (disch := omega) only [e_X12_book, e_X12_book__1, e_X12_book__2, e_X12_book__3, e_X12_book__4, e_X12_book__5, el, i2, wx_bd, wx_let, wx_st, wx_lit, wx_ga, wx_sa, pk_mul, nI_add, wx_le, wx_lt, wx_eq, wx_en, wx_ne', wx_nn, wx_ltn, wx_len, wx_nlt, wx_nle, wx_bz0, wx_bz1, if_pos, if_neg, wx_ite, Nat.reduceEqDiff, eq_self, if_true, if_false, not_true_eq_false, not_false_eq_true], h⟩
    · obtain ⟨b0, b1, b2, b3⟩ := h4 i (by omega)
      rcases wx_cs a1 4 with ⟨k, hk, rfl⟩ | hout
      · rcases wk_in (nI k) 0 3 (by omega) (by omega) with ⟨j1, j2⟩ | ⟨j, j1, j2, j3, j4, j5⟩
        · have := j1 σ
          rw [e_X11_within] at this
          simp -implicitDefEqProofs (disch := omega) only [wx_bd, wx_let, wx_st, wx_lit, wx_ga, wx_sa, pk_mul, nI_add, wx_le, wx_lt, wx_eq, wx_en, wx_ne', wx_nn, wx_ltn, wx_len, wx_nlt, wx_nle, wx_bz0, wx_bz1, if_pos, if_neg, wx_ite, Nat.reduceEqDiff, eq_self, if_true, if_false, not_true_eq_false, not_false_eq_true] at this
          simp at this
          exact absurd this (by decide)
        · have hjk : k = j := (nI_eq (by omega) (by omega)).mp j3
          subst hjk
          rcases (show k = 0 ∨ k = 1 ∨ k = 2 ∨ k = 3 by omega) with rfl | rfl | rfl | rfl
          · exact ⟨τ 8 (4 * i), σ, τ, by simp -implicitDefEqProofs (disch := omega) only [e_X11_book, e_X11_book__1, e_X11_book__2, e_X11_book__3, e_X11_book__4, e_X11_book__5, e9, el, i3, wx_swk0, wx_bd, wx_let, wx_st, wx_lit, wx_ga, wx_sa, pk_mul, nI_add, wx_le, wx_lt, wx_eq, wx_en, wx_ne', wx_nn, wx_ltn, wx_len, wx_nlt, wx_nle, wx_bz0, wx_bz1, if_pos, if_neg, wx_ite, Nat.reduceEqDiff, eq_self, if_true, if_false, not_true_eq_false, not_false_eq_true]; rw [b0], by simp -implicitDefEqProofs (disch := omega) only [e_X12_book, e_X12_book__1, e_X12_book__2, e_X12_book__3, e_X12_book__4, e_X12_book__5, el, i4, j5, wx_bd, wx_let, wx_st, wx_lit, wx_ga, wx_sa, pk_mul, nI_add, wx_le, wx_lt, wx_eq, wx_en, wx_ne', wx_nn, wx_ltn, wx_len, wx_nlt, wx_nle, wx_bz0, wx_bz1, if_pos, if_neg, wx_ite, Nat.reduceEqDiff, eq_self, if_true, if_false, not_true_eq_false, not_false_eq_true]; rfl, h⟩
          · exact ⟨τ 8 (4 * i + 1), σ, τ, by simp -implicitDefEqProofs (disch := omega) only [e_X11_book, e_X11_book__1, e_X11_book__2, e_X11_book__3, e_X11_book__4, e_X11_book__5, e9, el, i3, wx_swk1, wx_bd, wx_let, wx_st, wx_lit, wx_ga, wx_sa, pk_mul, nI_add, wx_le, wx_lt, wx_eq, wx_en, wx_ne', wx_nn, wx_ltn, wx_len, wx_nlt, wx_nle, wx_bz0, wx_bz1, if_pos, if_neg, wx_ite, Nat.reduceEqDiff, eq_self, if_true, if_false, not_true_eq_false, not_false_eq_true]; rw [b1], by simp -implicitDefEqProofs (disch := omega) only [e_X12_book, e_X12_book__1, e_X12_book__2, e_X12_book__3, e_X12_book__4, e_X12_book__5, el, i4, j5, wx_bd, wx_let, wx_st, wx_lit, wx_ga, wx_sa, pk_mul, nI_add, wx_le, wx_lt, wx_eq, wx_en, wx_ne', wx_nn, wx_ltn, wx_len, wx_nlt, wx_nle, wx_bz0, wx_bz1, if_pos, if_neg, wx_ite, Nat.reduceEqDiff, eq_self, if_true, if_false, not_true_eq_false, not_false_eq_true], h⟩
          · exact ⟨τ 8 (4 * i + 2), σ, τ, by simp -implicitDefEqProofs (disch := omega) only [e_X11_book, e_X11_book__1, e_X11_book__2, e_X11_book__3, e_X11_book__4, e_X11_book__5, e9, el, i3, wx_swk2, wx_bd, wx_let, wx_st, wx_lit, wx_ga, wx_sa, pk_mul, nI_add, wx_le, wx_lt, wx_eq, wx_en, wx_ne', wx_nn, wx_ltn, wx_len, wx_nlt, wx_nle, wx_bz0, wx_bz1, if_pos, if_neg, wx_ite, Nat.reduceEqDiff, eq_self, if_true, if_false, not_true_eq_false, not_false_eq_true]; rw [b2], by simp -implicitDefEqProofs (disch := omega) only [e_X12_book, e_X12_book__1, e_X12_book__2, e_X12_book__3, e_X12_book__4, e_X12_book__5, el, i4, j5, wx_bd, wx_let, wx_st, wx_lit, wx_ga, wx_sa, pk_mul, nI_add, wx_le, wx_lt, wx_eq, wx_en, wx_ne', wx_nn, wx_ltn, wx_len, wx_nlt, wx_nle, wx_bz0, wx_bz1, if_pos, if_neg, wx_ite, Nat.reduceEqDiff, eq_self, if_true, if_false, not_true_eq_false, not_false_eq_true], h⟩
          · exact ⟨τ 8 (4 * i + 3), σ, τ, by simp -implicitDefEqProofs (disch := omega) only [e_X11_book, e_X11_book__1, e_X11_book__2, e_X11_book__3, e_X11_book__4, e_X11_book__5, e9, el, i3, wx_swk3, wx_bd, wx_let, wx_st, wx_lit, wx_ga, wx_sa, pk_mul, nI_add, wx_le, wx_lt, wx_eq, wx_en, wx_ne', wx_nn, wx_ltn, wx_len, wx_nlt, wx_nle, wx_bz0, wx_bz1, if_pos, if_neg, wx_ite, Nat.reduceEqDiff, eq_self, if_true, if_false, not_true_eq_false, not_false_eq_true]; rw [b3], by simp -implicitDefEqProofs (disch := omega) only [e_X12_book, e_X12_book__1, e_X12_book__2, e_X12_book__3, e_X12_book__4, e_X12_book__5, el, i4, j5, wx_bd, wx_let, wx_st, wx_lit, wx_ga, wx_sa, pk_mul, nI_add, wx_le, wx_lt, wx_eq, wx_en, wx_ne', wx_nn, wx_ltn, wx_len, wx_nlt, wx_nle, wx_bz0, wx_bz1, if_pos, if_neg, wx_ite, Nat.reduceEqDiff, eq_self, if_true, if_false, not_true_eq_false, not_false_eq_true], h⟩
      · rcases wk_in a1 0 3 (by omega) (by omega) with ⟨j1, j2⟩ | ⟨j, j1, j2, j3, j4, j5⟩
        · refine ⟨-nI 10000, σ, τ, ?_, by simp -implicitDefEqProofs (disch := omega) only [e_X12_book, e_X12_book__1, e_X12_book__2, e_X12_book__3, e_X12_book__4, e_X12_book__5, el, i4, j2, wx_bd, wx_let, wx_st, wx_lit, wx_ga, wx_sa, pk_mul, nI_add, wx_le, wx_lt, wx_eq, wx_en, wx_ne', wx_nn, wx_ltn, wx_len, wx_nlt, wx_nle, wx_bz0, wx_bz1, if_pos, if_neg, wx_ite, Nat.reduceEqDiff, eq_self, if_true, if_false, not_true_eq_false, not_false_eq_true], h⟩
          simp -implicitDefEqProofs (disch := omega) only [e_X11_book, e_X11_book__1, e_X11_book__2, e_X11_book__3, e_X11_book__4, e_X11_book__5, e9, el, i3, wx_bd, wx_let, wx_st, wx_lit, wx_ga, wx_sa, pk_mul, nI_add, wx_le, wx_lt, wx_eq, wx_en, wx_ne', wx_nn, wx_ltn, wx_len, wx_nlt, wx_nle, wx_bz0, wx_bz1, if_pos, if_neg, wx_ite, Nat.reduceEqDiff, eq_self, if_true, if_false, not_true_eq_false, not_false_eq_true]
          exact wx_sw_out (fun k hk => hout k (by simpa using hk)) (by simp)
        · exact absurd j3 (hout j (by omega))

set_option maxHeartbeats 1000000 in
theorem ws_heir : wp_heir wR := by
  intro σ τ a0 a1 h
  have h := wR_told (nI 0) h
  simp only [e_X12_heir, wx_st, wx_lit]
  generalize wg_u τ 0 0 (nI 0) = τ at h ⊢
  obtain ⟨nw, nj, nc, hX, hY, hP, hI, hD⟩ := wR_X h
  obtain ⟨n1, n2, n3, n4, n5, n6⟩ := id hX.1
  rcases wk_wig (wb_nw hX.2.1) n4 n1 a0 with ⟨c1, c2⟩ | ⟨w, hw, rfl, c1, c2⟩
  · exact ⟨-nI 1, σ, τ, by simp -implicitDefEqProofs (disch := omega) only [e_X11_heir, e_X11_heir__1, e_X11_heir__2, e_X11_heir__3, c1, wx_bd, wx_let, wx_st, wx_lit, wx_ga, wx_sa, pk_mul, nI_add, wx_le, wx_lt, wx_eq, wx_en, wx_ne', wx_nn, wx_ltn, wx_len, wx_nlt, wx_nle, wx_bz0, wx_bz1, if_pos, if_neg, wx_ite, Nat.reduceEqDiff, eq_self, if_true, if_false, not_true_eq_false, not_false_eq_true], by simp -implicitDefEqProofs (disch := omega) only [e_X12_heir, e_X12_heir__1, e_X12_heir__2, e_X12_heir__3, e_X12_heir__4, e_X12_heir__5, c2, wx_bd, wx_let, wx_st, wx_lit, wx_ga, wx_sa, pk_mul, nI_add, wx_le, wx_lt, wx_eq, wx_en, wx_ne', wx_nn, wx_ltn, wx_len, wx_nlt, wx_nle, wx_bz0, wx_bz1, if_pos, if_neg, wx_ite, Nat.reduceEqDiff, eq_self, if_true, if_false, not_true_eq_false, not_false_eq_true], h⟩
  · rcases wk_in a1 1 9 (by omega) (by omega) with ⟨i1, i2⟩ | ⟨N, N1, N9, rfl, i1, i2⟩
    · exact ⟨-nI 1, σ, τ, by simp -implicitDefEqProofs (disch := omega) only [e_X11_heir, e_X11_heir__1, e_X11_heir__2, e_X11_heir__3, c1, i1, wx_bd, wx_let, wx_st, wx_lit, wx_ga, wx_sa, pk_mul, nI_add, wx_le, wx_lt, wx_eq, wx_en, wx_ne', wx_nn, wx_ltn, wx_len, wx_nlt, wx_nle, wx_bz0, wx_bz1, if_pos, if_neg, wx_ite, Nat.reduceEqDiff, eq_self, if_true, if_false, not_true_eq_false, not_false_eq_true], by simp -implicitDefEqProofs (disch := omega) only [e_X12_heir, e_X12_heir__1, e_X12_heir__2, e_X12_heir__3, e_X12_heir__4, e_X12_heir__5, c2, i2, wx_bd, wx_let, wx_st, wx_lit, wx_ga, wx_sa, pk_mul, nI_add, wx_le, wx_lt, wx_eq, wx_en, wx_ne', wx_nn, wx_ltn, wx_len, wx_nlt, wx_nle, wx_bz0, wx_bz1, if_pos, if_neg, wx_ite, Nat.reduceEqDiff, eq_self, if_true, if_false, not_true_eq_false, not_false_eq_true], h⟩
    · obtain ⟨r, r1, r2, r3⟩ := wl_wearer hX.2.1 hX.1 (nI w)
      rcases r3 with ⟨rfl, -⟩ | ⟨j, hj, rfl, r4⟩
      · exact ⟨-nI 1, σ, τ, by simp -implicitDefEqProofs (disch := omega) only [e_X11_heir, e_X11_heir__1, e_X11_heir__2, e_X11_heir__3, e_X7_heirOf, e_X7_heirOf__1, c1, i1, r1, wx_bd, wx_let, wx_st, wx_lit, wx_ga, wx_sa, pk_mul, nI_add, wx_le, wx_lt, wx_eq, wx_en, wx_ne', wx_nn, wx_ltn, wx_len, wx_nlt, wx_nle, wx_bz0, wx_bz1, if_pos, if_neg, wx_ite, Nat.reduceEqDiff, eq_self, if_true, if_false, not_true_eq_false, not_false_eq_true], by simp -implicitDefEqProofs (disch := omega) only [e_X12_heir, e_X12_heir__1, e_X12_heir__2, e_X12_heir__3, e_X12_heir__4, e_X12_heir__5, c2, i2, r2, wx_bd, wx_let, wx_st, wx_lit, wx_ga, wx_sa, pk_mul, nI_add, wx_le, wx_lt, wx_eq, wx_en, wx_ne', wx_nn, wx_ltn, wx_len, wx_nlt, wx_nle, wx_bz0, wx_bz1, if_pos, if_neg, wx_ite, Nat.reduceEqDiff, eq_self, if_true, if_false, not_true_eq_false, not_false_eq_true], h⟩
      · have njm : ¬ nI j = -nI 1 := by
          intro e
          have := congrArg Int32.toInt e
          rw [nI_toInt (by omega), wx_neg_toInt (by omega)] at this
          omega
        have ew : τ 1 (13 + j) = nI (w + 1) := by rw [← Int32.sub_add_cancel (a := τ 1 (13 + j)) (b := nI 1), r4, nI_add]
        have dw : ¬ nI (w + 1) = nI 0 := by rw [nI_eq (by omega) (by omega)]; omega
        obtain ⟨T, k1, k2, k3, k4⟩ := wl_thk 295 0 wg_N τ (by omega) (by rw [wx_N]; omega)
        obtain ⟨t0, ht0⟩ : ∃ t0, t0 = wg_u T 0 5 (nI 1) := ⟨_, rfl⟩
        have u1 : t0 1 = τ 1 := by rw [ht0, wx_un (by omega), k2 1 (by omega)]
        have u0 : ∀ i, i ≠ 5 → t0 0 i = τ 0 i := fun i hi => by rw [ht0, wx_uk, pk_un hi, k2 0 (by omega)]
        have ua : ∀ a, a ≠ 0 → a ≠ 3 → t0 a = τ a := fun a q0 q3 => by rw [ht0, wx_un q0, k2 a q3]
        have u3 : ∀ i, i < 295 → t0 3 i = τ 1 i := fun i hi => by rw [ht0, wx_un (by omega)]; exact k4 i (by omega) hi
        have hHI : wHI nj w σ t0 t0 0 (some j) := by
          refine ⟨fun _ _ => rfl, fun i hi => by rw [u1]; exact wb_age hX.2.1 hi, fun i hi => ?_, fun i hi => ?_, fun i e => by cases e; exact hj⟩
          · rw [u1, wb_dead hX.2.1 hi, wb_worn hX.2.1 hi]
            constructor
            · intro q
              exact ⟨q.1, by rw [q.2]; decide, by simp⟩
            · intro q
              exact ⟨q.1, by rw [← Int32.sub_add_cancel (a := τ 1 (13 + i)) (b := nI 1), q.2.1]; decide⟩
          · rw [u1]
            constructor
            · intro q
              rcases hX.2.1.2.2.2.2 i j hi hj (by rw [q, ew]) with z | z
              · rw [q] at z; exact absurd z dw
              · rw [z]
            · intro q
              cases q
              exact ew
        obtain ⟨r, t', g1, g2, g3⟩ := wl_heir_l (σ := σ) (t0 := t0) (nj := nj) (w := w) n2 (by omega) (wb_nj hX.2.1) (by rw [u0 7 (by omega)]; exact n5) (by rw [ht0]; simp -implicitDefEqProofs (disch := omega) only [wx_uk, wx_un, pk_us, pk_un]) N9 N 0 wg_N wg_N 0 j (-nI 1) t0 (by omega) (by rw [wx_N]; omega) (by rw [wx_N]; omega) (by omega) hHI (fun q => by omega)
        obtain ⟨E, f1, f2, f3, f4⟩ := wl_ends 295 0 wg_N t' (by omega) (by rw [wx_N]; omega)
        have fe : f_X12_endsThought 0 t' = some (nI 0, wg_u E 0 5 (nI 0)) := by rw [e_X12_endsThought]; exact f1
        have th : f_X12_thinks 0 τ = some (nI 0, t0) := by rw [e_X12_thinks, ht0]; exact k1
        refine ⟨r, σ, wg_u E 0 5 (nI 0), ?_, ?_, ?_⟩
        · have ho : f_X7_heirOf 280 (nI w) (nI N) σ = some (r, σ) := by
            simp -implicitDefEqProofs (disch := omega) only [e_X7_heirOf, e_X7_heirOf__1, r1, njm, wx_bd, wx_let, wx_st, wx_lit, wx_ga, wx_sa, pk_mul, nI_add, wx_le, wx_lt, wx_eq, wx_en, wx_ne', wx_nn, wx_ltn, wx_len, wx_nlt, wx_nle, wx_bz0, wx_bz1, if_pos, if_neg, wx_ite, Nat.reduceEqDiff, eq_self, if_true, if_false, not_true_eq_false, not_false_eq_true]; exact g1
          simp -implicitDefEqProofs (disch := omega) only [e_X11_heir, e_X11_heir__1, e_X11_heir__2, e_X11_heir__3, c1, i1, ho, wx_bd, wx_let, wx_st, wx_lit, wx_ga, wx_sa, pk_mul, nI_add, wx_le, wx_lt, wx_eq, wx_en, wx_ne', wx_nn, wx_ltn, wx_len, wx_nlt, wx_nle, wx_bz0, wx_bz1, if_pos, if_neg, wx_ite, Nat.reduceEqDiff, eq_self, if_true, if_false, not_true_eq_false, not_false_eq_true]
        · simp -implicitDefEqProofs (disch := omega) only [e_X12_heir, e_X12_heir__1, e_X12_heir__2, e_X12_heir__3, e_X12_heir__4, e_X12_heir__5, c2, i2, r2, njm, th, wx_bd, wx_let, wx_st, wx_lit, wx_ga, wx_sa, pk_mul, nI_add, wx_le, wx_lt, wx_eq, wx_en, wx_ne', wx_nn, wx_ltn, wx_len, wx_nlt, wx_nle, wx_bz0, wx_bz1, if_pos, if_neg, wx_ite, Nat.reduceEqDiff, eq_self, if_true, if_false, not_true_eq_false, not_false_eq_true]
          exact g2 _ fe
        · refine wR_fr (fun _ _ _ _ _ => rfl) (fun a i q => ?_) h
          by_cases ca : a = 0
          · subst ca
            by_cases c5 : i = 5
            · subst c5
              rw [wx_uk, pk_us]
              exact hX.2.2.2.2.2.symm
            · rw [wx_uk, pk_un c5, f2 0 (by omega), g3 0 (by omega)]
              exact u0 i c5
          · rw [wx_un ca]
            by_cases cb : a = 1
            · subst cb
              have hi : i < 295 := by simpa [wLq, wLv] using q
              rw [f4 i (by omega) hi, g3 3 (by omega)]
              exact u3 i hi
            · rw [f2 a cb, g3 a cb, ua a ca (fun e => by subst e; simp [wLq, wLv] at q)]

section BH
variable {t : Nat → Nat} {n : Nat}
set_option maxHeartbeats 1000000 in
theorem wl_b22 (hn : n ≤ 400) : ∀ d x j f σ, n ≤ x + d → x ≤ n → d < f → σ 260 2 = nI n → (∀ i, i < n → σ 261 i = nI (t i) ∧ t i < 256) → wTq t n j σ → j ≤ x → wsk t n x = wTF t n j → ∃ M σ', f_X6_begin_22 f 260 (nI x) σ = some (nI 0, σ') ∧ wTq t n (M + 1) σ' ∧ M ≤ n ∧ wTS t n M = 0 ∧ σ' 260 2 = nI 0 ∧ ∀ a i, ¬ (a = 260 ∧ (i = 2 ∨ i = 6)) → a ≠ 262 → a ≠ 263 → a ≠ 264 → σ' a i = σ a i := by
  intro d
  induction d with
  | zero =>
    intro x j f σ hx hxn hf h2 ht hq hj hw
    obtain ⟨f, rfl⟩ : ∃ y, f = y + 1 := ⟨f - 1, by omega⟩
    obtain rfl : x = n := by omega
    have e : wsk t x x = x := wrr_end (Nat.le_refl _)
    have eF : wTF t x j = x := by rw [← hw]; exact e
    have eS : wTS t x j = 0 := by unfold wTS; rw [eF]; exact if_pos (Nat.le_refl _)
    have ad := wl_adT (show j ≤ 400 by omega) hq.1 (nI 1) (nI 0) (nI x)
    have q := wTq_s (a := nI 1) (b := nI 0) (c := nI x) hq (by rw [eS]; rfl) (fun z => by omega) (by rw [eF])
    refine ⟨j, wg_u (wg_u (wg_u (wg_u (wg_u σ 262 j (nI 1)) 263 j (nI 0)) 264 j (nI x)) 260 6 (nI (j + 1))) 260 2 (nI 0), ?_, ⟨?_, fun i hi => ?_⟩, hj, eS, by rw [wx_uk, pk_us], fun a i q1 q2 q3 q4 => ?_⟩
    · simp -implicitDefEqProofs (disch := omega) only [e_X6_begin_22, e_X6_begin_22__1, e_X6_begin_22__2, e_X6_begin_22__3, e_X6_begin_22__4, e_X6_begin_22__5, e_X6_begin_22__6, e_X6_begin_22__7, e_X6_begin_22__8, e_X6_begin_22__9, e_X6_begin_22__10, e_X6_begin_22__11, e_X6_begin_22__12, h2, ad, wx_bd, wx_let, wx_st, wx_lit, wx_ga, wx_sa, pk_mul, nI_add, wx_le, wx_lt, wx_eq, wx_en, wx_ne', wx_nn, wx_ltn, wx_len, wx_nlt, wx_nle, wx_bz0, wx_bz1, if_pos, if_neg, wx_ite, Nat.reduceEqDiff, eq_self, if_true, if_false, not_true_eq_false, not_false_eq_true]
    · rw [wx_uk, pk_un (by omega)]; exact q.1
    · rw [wx_un (by omega), wx_un (by omega), wx_un (by omega)]; exact q.2 i hi
    · rw [wx_ur, if_neg (by omega), wx_ur, if_neg (by omega), wx_ur, if_neg (by omega), wx_ur, if_neg (by omega), wx_ur, if_neg (by omega)]
  | succ d ih =>
    intro x j f σ hx hxn hf h2 ht hq hj hw
    obtain ⟨f, rfl⟩ : ∃ y, f = y + 1 := ⟨f - 1, by omega⟩
    by_cases c : n ≤ x
    · obtain rfl : x = n := by omega
      have e : wsk t x x = x := wrr_end (Nat.le_refl _)
      have eF : wTF t x j = x := by rw [← hw]; exact e
      have eS : wTS t x j = 0 := by unfold wTS; rw [eF]; exact if_pos (Nat.le_refl _)
      have ad := wl_adT (show j ≤ 400 by omega) hq.1 (nI 1) (nI 0) (nI x)
      have q := wTq_s (a := nI 1) (b := nI 0) (c := nI x) hq (by rw [eS]; rfl) (fun z => by omega) (by rw [eF])
      refine ⟨j, wg_u (wg_u (wg_u (wg_u (wg_u σ 262 j (nI 1)) 263 j (nI 0)) 264 j (nI x)) 260 6 (nI (j + 1))) 260 2 (nI 0), ?_, ⟨?_, fun i hi => ?_⟩, hj, eS, by rw [wx_uk, pk_us], fun a i q1 q2 q3 q4 => ?_⟩
      · simp -implicitDefEqProofs (disch := omega) only [e_X6_begin_22, e_X6_begin_22__1, e_X6_begin_22__2, e_X6_begin_22__3, e_X6_begin_22__4, e_X6_begin_22__5, e_X6_begin_22__6, e_X6_begin_22__7, e_X6_begin_22__8, e_X6_begin_22__9, e_X6_begin_22__10, e_X6_begin_22__11, e_X6_begin_22__12, h2, ad, wx_bd, wx_let, wx_st, wx_lit, wx_ga, wx_sa, pk_mul, nI_add, wx_le, wx_lt, wx_eq, wx_en, wx_ne', wx_nn, wx_ltn, wx_len, wx_nlt, wx_nle, wx_bz0, wx_bz1, if_pos, if_neg, wx_ite, Nat.reduceEqDiff, eq_self, if_true, if_false, not_true_eq_false, not_false_eq_true]
      · rw [wx_uk, pk_un (by omega)]; exact q.1
      · rw [wx_un (by omega), wx_un (by omega), wx_un (by omega)]; exact q.2 i hi
      · rw [wx_ur, if_neg (by omega), wx_ur, if_neg (by omega), wx_ur, if_neg (by omega), wx_ur, if_neg (by omega), wx_ur, if_neg (by omega)]
    · obtain ⟨t1, t2⟩ := ht x (by omega)
      by_cases cb : wiB (t x) = true
      · have e : wsk t n x = wsk t n (x + 1) := wrr_yes (p := fun k => wiB (t k)) (by omega) cb
        have bb := cb
        simp only [wiB, Bool.or_eq_true, beq_iff_eq] at bb
        have m1 := wl_cL0 (σ := σ) t2 (by simp only [wiL, Bool.or_eq_true, Bool.and_eq_true, decide_eq_true_eq]; omega)
        have m2 := wl_cD0 (σ := σ) t2 (by simp only [wiD, Bool.and_eq_true, decide_eq_true_eq]; omega)
        obtain ⟨M, σ', g1, g2, g3, g4, g5, g6⟩ := ih (x + 1) j f σ (by omega) (by omega) (by omega) h2 ht hq (by omega) (by rw [← e]; exact hw)
        refine ⟨M, σ', ?_, g2, g3, g4, g5, g6⟩
        rw [← g1]
        rcases bb with bb | bb
        · rw [bb] at t1 m1 m2
          simp -implicitDefEqProofs (disch := omega) only [e_X6_begin_22, e_X6_begin_22__1, e_X6_begin_22__2, e_X6_begin_22__3, e_X6_begin_22__4, e_X6_begin_22__5, e_X6_begin_22__6, e_X6_begin_22__7, e_X6_begin_22__8, e_X6_begin_22__9, e_X6_begin_22__10, e_X6_begin_22__11, e_X6_begin_22__12, e_X6_begin_201, h2, t1, m1, m2, wx_bd, wx_let, wx_st, wx_lit, wx_ga, wx_sa, pk_mul, nI_add, wx_le, wx_lt, wx_eq, wx_en, wx_ne', wx_nn, wx_ltn, wx_len, wx_nlt, wx_nle, wx_bz0, wx_bz1, if_pos, if_neg, wx_ite, Nat.reduceEqDiff, eq_self, if_true, if_false, not_true_eq_false, not_false_eq_true]
        · rw [bb] at t1 m1 m2
          simp -implicitDefEqProofs (disch := omega) only [e_X6_begin_22, e_X6_begin_22__1, e_X6_begin_22__2, e_X6_begin_22__3, e_X6_begin_22__4, e_X6_begin_22__5, e_X6_begin_22__6, e_X6_begin_22__7, e_X6_begin_22__8, e_X6_begin_22__9, e_X6_begin_22__10, e_X6_begin_22__11, e_X6_begin_22__12, e_X6_begin_201, h2, t1, m1, m2, wx_bd, wx_let, wx_st, wx_lit, wx_ga, wx_sa, pk_mul, nI_add, wx_le, wx_lt, wx_eq, wx_en, wx_ne', wx_nn, wx_ltn, wx_len, wx_nlt, wx_nle, wx_bz0, wx_bz1, if_pos, if_neg, wx_ite, Nat.reduceEqDiff, eq_self, if_true, if_false, not_true_eq_false, not_false_eq_true]
      · have e : wsk t n x = x := wrr_no (p := fun k => wiB (t k)) cb
        have eF : wTF t n j = x := by rw [← hw]; exact e
        have eP : wPo t n (j + 1) = wkE t n x := by
          show wkE t n (wsk t n (wPo t n j)) = _
          rw [show wsk t n (wPo t n j) = x from eF]
        obtain ⟨k1, k2, k3⟩ := wkE_f (t := t) (show x ≤ n by omega)
        have k3 := k3 (by omega)
        have bb := cb
        simp only [wiB, Bool.or_eq_true, beq_iff_eq] at bb
        have key : ∀ a b : Int32, f_X6_begin_22 (f + 1) 260 (nI x) σ = f_X6_begin_22 f 260 (nI (wkE t n x)) (wg_u (wg_u (wg_u (wg_u σ 262 j a) 263 j b) 264 j (nI x)) 260 6 (nI (j + 1))) → a = nI (wKd (wTS t n j) (wTV t n j)) → (wTS t n j = 3 → b = nI (wTV t n j)) → ∃ M σ', f_X6_begin_22 (f + 1) 260 (nI x) σ = some (nI 0, σ') ∧ wTq t n (M + 1) σ' ∧ M ≤ n ∧ wTS t n M = 0 ∧ σ' 260 2 = nI 0 ∧ ∀ a i, ¬ (a = 260 ∧ (i = 2 ∨ i = 6)) → a ≠ 262 → a ≠ 263 → a ≠ 264 → σ' a i = σ a i := fun a b es ha hb => by
          obtain ⟨M, σ', g1, g2, g3, g4, g5, g6⟩ := ih (wkE t n x) (j + 1) f (wg_u (wg_u (wg_u (wg_u σ 262 j a) 263 j b) 264 j (nI x)) 260 6 (nI (j + 1))) (by omega) k2 (by omega) (by simp -implicitDefEqProofs (disch := omega) only [wx_uk, wx_un, pk_us, pk_un]; exact h2) (fun i hi => by simp -implicitDefEqProofs (disch := omega) only [wx_uk, wx_un, pk_us, pk_un]; exact ht i hi) (wTq_s hq ha hb (by rw [eF])) (by omega) (by rw [← eP]; rfl)
          refine ⟨M, σ', by rw [es]; exact g1, g2, g3, g4, g5, fun a i q1 q2 q3 q4 => ?_⟩
          rw [g6 a i q1 q2 q3 q4, wx_ur, if_neg (by omega), wx_ur, if_neg (by omega), wx_ur, if_neg (by omega), wx_ur, if_neg (by omega)]
        have ad : ∀ a b, f_X6_addToken 260 a b (nI x) σ = some (nI 0, wg_u (wg_u (wg_u (wg_u σ 262 j a) 263 j b) 264 j (nI x)) 260 6 (nI (j + 1))) := fun a b => wl_adT (by omega) hq.1 a b (nI x)
        by_cases cl : wiL (t x) = true
        · have m1 := wl_cL1 (σ := σ) t2 cl
          have eE : wkE t n x = wrr (fun k => wiL (t k)) n (x + 1) := by
            unfold wkE
            rw [if_neg c, if_pos cl]
          have b46 := wl_b46 hn h2 ht (x2 := nI x) (f_X6_begin_22 f) (n - (x + 1)) (x + 1) wg_N (by omega) (by rw [wx_N]; omega)
          rw [← eE] at b46
          have wd := wl_wordC hn ht (a := x) (b := wkE t n x) (by omega) k2
          refine key (nI (wcQ (wBy t x (wkE t n x - x)) 26 0)) (nI 0) ?_ ?_ (fun z => ?_)
          · have e1 : f_X6_begin_22 (f + 1) 260 (nI x) σ = f_X6_begin_46 (f_X6_begin_22 f) wg_N 260 (nI (x + 1)) (nI x) σ := by
              simp -implicitDefEqProofs (disch := omega) only [e_X6_begin_22, e_X6_begin_22__1, e_X6_begin_22__2, e_X6_begin_22__3, e_X6_begin_22__4, e_X6_begin_22__5, e_X6_begin_22__6, e_X6_begin_22__7, e_X6_begin_22__8, e_X6_begin_22__9, e_X6_begin_22__10, e_X6_begin_22__11, e_X6_begin_22__12, h2, t1, m1, wx_bd, wx_let, wx_st, wx_lit, wx_ga, wx_sa, pk_mul, nI_add, wx_le, wx_lt, wx_eq, wx_en, wx_ne', wx_nn, wx_ltn, wx_len, wx_nlt, wx_nle, wx_bz0, wx_bz1, if_pos, if_neg, wx_ite, Nat.reduceEqDiff, eq_self, if_true, if_false, not_true_eq_false, not_false_eq_true]
            rw [e1, b46]
            simp -implicitDefEqProofs (disch := omega) only [e_X6_begin_72, e_X6_begin_72__1, e_X6_begin_72__2, e_X6_begin_201, wd, ad, wx_bd, wx_let, wx_st, wx_lit, wx_ga, wx_sa, pk_mul, nI_add, wx_le, wx_lt, wx_eq, wx_en, wx_ne', wx_nn, wx_ltn, wx_len, wx_nlt, wx_nle, wx_bz0, wx_bz1, if_pos, if_neg, wx_ite, Nat.reduceEqDiff, eq_self, if_true, if_false, not_true_eq_false, not_false_eq_true]
          · unfold wTS wTV
            rw [eF]
            unfold wkS wkV
            rw [if_neg c, if_pos cl, if_pos cl]
            rcases wQ_both (wBy t x (wkE t n x - x)) with ⟨z1, z2⟩ | ⟨r, r1, z1, z2⟩
            · rw [z1, if_pos rfl]; rfl
            · have k0 : wKd 2 r ≠ 0 := by
                have : ∀ r, r < 26 → wKd 2 r ≠ 0 := by decide
                exact this r r1
              rw [z1, z2, if_neg k0, nI_toInt (by omega)]
              rfl
          · exfalso
            unfold wTS at z
            rw [eF] at z
            unfold wkS at z
            rw [if_neg c, if_pos cl] at z
            split at z <;> omega
        · have m1 := wl_cL0 (σ := σ) t2 cl
          by_cases cd : wiD (t x) = true
          · have m2 := wl_cD1 (σ := σ) t2 cd
            have eE : wkE t n x = wrr (fun k => wiD (t k)) n (x + 1) := by
              unfold wkE
              rw [if_neg c, if_neg cl, if_pos cd]
            have wf := wrr_f (fun k => wiD (t k)) n (n - (x + 1)) (x + 1) (by omega)
            rw [← eE] at wf
            have b99 := wl_b99 hn h2 ht (x2 := nI x) (f_X6_begin_22 f) (n - (x + 1)) (x + 1) wg_N (by omega) (by rw [wx_N]; omega)
            rw [← eE] at b99
            have nu := wl_nuC hn ht k2 (wkE t n x - x) x wg_N 0 (by omega) (by rw [wx_N]; omega) (fun k h1 h2 => by
              by_cases ek : k = x
              · subst ek; exact cd
              · exact wf.2.2.1 k (by omega) h2)
            have nu : f_X6_numberAt 260 (nI x) (nI (wkE t n x)) σ = some (nI (wdN t x (wkE t n x - x) 0), σ) := by
              rw [e_X6_numberAt]; exact nu
            have sb : nI (wkE t n x) - nI x = nI (wkE t n x - x) := wx_sub (by omega)
            have e1 : f_X6_begin_22 (f + 1) 260 (nI x) σ = f_X6_begin_99 (f_X6_begin_22 f) wg_N 260 (nI (x + 1)) (nI x) σ := by
              simp -implicitDefEqProofs (disch := omega) only [e_X6_begin_22, e_X6_begin_22__1, e_X6_begin_22__2, e_X6_begin_22__3, e_X6_begin_22__4, e_X6_begin_22__5, e_X6_begin_22__6, e_X6_begin_22__7, e_X6_begin_22__8, e_X6_begin_22__9, e_X6_begin_22__10, e_X6_begin_22__11, e_X6_begin_22__12, h2, t1, m1, m2, wx_bd, wx_let, wx_st, wx_lit, wx_ga, wx_sa, pk_mul, nI_add, wx_le, wx_lt, wx_eq, wx_en, wx_ne', wx_nn, wx_ltn, wx_len, wx_nlt, wx_nle, wx_bz0, wx_bz1, if_pos, if_neg, wx_ite, Nat.reduceEqDiff, eq_self, if_true, if_false, not_true_eq_false, not_false_eq_true]
            by_cases c5 : wkE t n x - x < 5
            · have eS : wTS t n j = 3 := by
                unfold wTS
                rw [eF]
                unfold wkS
                rw [if_neg c, if_neg cl, if_pos cd, if_pos c5]
              have eV : wTV t n j = wdN t x (wkE t n x - x) 0 := by
                unfold wTV
                rw [eF]
                unfold wkV
                rw [if_neg cl, if_pos cd]
              refine key (nI 2) (nI (wdN t x (wkE t n x - x) 0)) ?_ (by rw [eS]; rfl) (fun _ => by rw [eV])
              rw [e1, b99]
              simp -implicitDefEqProofs (disch := omega) only [e_X6_begin_125, e_X6_begin_138, e_X6_begin_138__1, e_X6_begin_138__2, e_X6_begin_201, sb, nu, ad, wx_bd, wx_let, wx_st, wx_lit, wx_ga, wx_sa, pk_mul, nI_add, wx_le, wx_lt, wx_eq, wx_en, wx_ne', wx_nn, wx_ltn, wx_len, wx_nlt, wx_nle, wx_bz0, wx_bz1, if_pos, if_neg, wx_ite, Nat.reduceEqDiff, eq_self, if_true, if_false, not_true_eq_false, not_false_eq_true]
            · have eS : wTS t n j = 1 := by
                unfold wTS
                rw [eF]
                unfold wkS
                rw [if_neg c, if_neg cl, if_pos cd, if_neg c5]
              refine key (nI 0) (nI (wdN t x (wkE t n x - x) 0)) ?_ (by rw [eS]; rfl) (fun z => by omega)
              rw [e1, b99]
              simp -implicitDefEqProofs (disch := omega) only [e_X6_begin_125, e_X6_begin_138, e_X6_begin_138__1, e_X6_begin_138__2, e_X6_begin_201, sb, nu, ad, wx_bd, wx_let, wx_st, wx_lit, wx_ga, wx_sa, pk_mul, nI_add, wx_le, wx_lt, wx_eq, wx_en, wx_ne', wx_nn, wx_ltn, wx_len, wx_nlt, wx_nle, wx_bz0, wx_bz1, if_pos, if_neg, wx_ite, Nat.reduceEqDiff, eq_self, if_true, if_false, not_true_eq_false, not_false_eq_true]
          · have m2 := wl_cD0 (σ := σ) t2 cd
            have m3 := wl_cS (σ := σ) t2
            have eE : wkE t n x = x + 1 := by
              unfold wkE
              rw [if_neg c, if_neg cl, if_neg cd]
            have b1 : t x ≠ 32 := fun z => bb (Or.inl z)
            have b2 : t x ≠ 10 := fun z => bb (Or.inr z)
            by_cases cs : wiS (t x) = true
            · rw [if_pos cs] at m3
              have eS : wTS t n j = 4 := by
                unfold wTS
                rw [eF]
                unfold wkS
                rw [if_neg c, if_neg cl, if_neg cd, if_pos cs]
              have eV : wTV t n j = t x := by
                unfold wTV
                rw [eF]
                unfold wkV
                rw [if_neg cl, if_neg cd]
              refine key (nI (t x)) (nI 0) ?_ (by rw [eS, eV]; rfl) (fun z => by omega)
              rw [eE]
              simp -implicitDefEqProofs (disch := omega) only [e_X6_begin_22, e_X6_begin_22__1, e_X6_begin_22__2, e_X6_begin_22__3, e_X6_begin_22__4, e_X6_begin_22__5, e_X6_begin_22__6, e_X6_begin_22__7, e_X6_begin_22__8, e_X6_begin_22__9, e_X6_begin_22__10, e_X6_begin_22__11, e_X6_begin_22__12, e_X6_begin_196, e_X6_begin_196__1, e_X6_begin_201, h2, t1, m1, m2, m3, ad, wx_bd, wx_let, wx_st, wx_lit, wx_ga, wx_sa, pk_mul, nI_add, wx_le, wx_lt, wx_eq, wx_en, wx_ne', wx_nn, wx_ltn, wx_len, wx_nlt, wx_nle, wx_bz0, wx_bz1, if_pos, if_neg, wx_ite, Nat.reduceEqDiff, eq_self, if_true, if_false, not_true_eq_false, not_false_eq_true]
            · rw [if_neg cs] at m3
              have eS : wTS t n j = 1 := by
                unfold wTS
                rw [eF]
                unfold wkS
                rw [if_neg c, if_neg cl, if_neg cd, if_neg cs]
              refine key (nI 0) (nI 0) ?_ (by rw [eS]; rfl) (fun z => by omega)
              rw [eE]
              simp -implicitDefEqProofs (disch := omega) only [e_X6_begin_22, e_X6_begin_22__1, e_X6_begin_22__2, e_X6_begin_22__3, e_X6_begin_22__4, e_X6_begin_22__5, e_X6_begin_22__6, e_X6_begin_22__7, e_X6_begin_22__8, e_X6_begin_22__9, e_X6_begin_22__10, e_X6_begin_22__11, e_X6_begin_22__12, e_X6_begin_196, e_X6_begin_196__1, e_X6_begin_201, h2, t1, m1, m2, m3, ad, wx_bd, wx_let, wx_st, wx_lit, wx_ga, wx_sa, pk_mul, nI_add, wx_le, wx_lt, wx_eq, wx_en, wx_ne', wx_nn, wx_ltn, wx_len, wx_nlt, wx_nle, wx_bz0, wx_bz1, if_pos, if_neg, wx_ite, Nat.reduceEqDiff, eq_self, if_true, if_false, not_true_eq_false, not_false_eq_true]
set_option maxHeartbeats 1000000 in
/-- the class has split its tape -/
theorem wl_begin6 (hn : n ≤ 400) {σ : wg_M} (h2 : σ 260 2 = nI n) (ht : ∀ i, i < n → σ 261 i = nI (t i) ∧ t i < 256) : ∃ M σ', f_X6_begin 260 σ = some (nI 0, σ') ∧ wTo M (wTS t n) (wTV t n) ∧ wTc M (wTS t n) (wTV t n) (wTF t n) 0 σ' ∧ σ' 260 2 = nI 0 ∧ σ' 260 8 = nI 0 ∧ σ' 260 9 = -nI 1 ∧ ∀ a i, a ≠ 260 → a ≠ 262 → a ≠ 263 → a ≠ 264 → σ' a i = σ a i := by
  generalize hs : wg_u (wg_u (wg_u (wg_u σ 260 8 (nI 0)) 260 9 (-nI 1)) 260 7 (nI 0)) 260 6 (nI 0) = σ0
  have s2 : σ0 260 2 = nI n := by rw [← hs]; simp -implicitDefEqProofs (disch := omega) only [wx_uk, wx_un, pk_us, pk_un]; exact h2
  have s6 : σ0 260 6 = nI 0 := by rw [← hs]; simp -implicitDefEqProofs (disch := omega) only [wx_uk, wx_un, pk_us, pk_un]
  have s7 : σ0 260 7 = nI 0 := by rw [← hs]; simp -implicitDefEqProofs (disch := omega) only [wx_uk, wx_un, pk_us, pk_un]
  have s8 : σ0 260 8 = nI 0 := by rw [← hs]; simp -implicitDefEqProofs (disch := omega) only [wx_uk, wx_un, pk_us, pk_un]
  have s9 : σ0 260 9 = -nI 1 := by rw [← hs]; simp -implicitDefEqProofs (disch := omega) only [wx_uk, wx_un, pk_us, pk_un]
  obtain ⟨M, σ', g1, g2, g3, g4, g5, g6⟩ := wl_b22 (t := t) hn n 0 0 wg_N σ0 (by omega) (by omega) (by rw [wx_N]; omega) s2 (fun i hi => by rw [← hs]; simp -implicitDefEqProofs (disch := omega) only [wx_uk, wx_un, pk_us, pk_un]; exact ht i hi) ⟨s6, fun i hi => by omega⟩ (by omega) rfl
  refine ⟨M, σ', ?_, ⟨by omega, g4, fun i _ => wk_ok (wsk_f (wPo_le i)).2.1⟩, ⟨Nat.zero_le _, g2.1, by rw [g6 260 7 (by omega) (by omega) (by omega) (by omega)]; exact s7, fun i hi => g2.2 i (by omega)⟩, g5, by rw [g6 260 8 (by omega) (by omega) (by omega) (by omega)]; exact s8, by rw [g6 260 9 (by omega) (by omega) (by omega) (by omega)]; exact s9, fun a i q1 q2 q3 q4 => ?_⟩
  · simp -implicitDefEqProofs (disch := omega) only [e_X6_begin, e_X6_begin__1, e_X6_begin__2, e_X6_begin__3, e_X6_begin__4, hs, wx_bd, wx_let, wx_st, wx_lit, wx_ga, wx_sa, pk_mul, nI_add, wx_le, wx_lt, wx_eq, wx_en, wx_ne', wx_nn, wx_ltn, wx_len, wx_nlt, wx_nle, wx_bz0, wx_bz1, if_pos, if_neg, wx_ite, Nat.reduceEqDiff, eq_self, if_true, if_false, not_true_eq_false, not_false_eq_true]
    exact g1
  · rw [g6 a i (by omega) q2 q3 q4, ← hs, wx_un q1, wx_un q1, wx_un q1, wx_un q1]
end BH

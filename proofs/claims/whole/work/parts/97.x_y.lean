section RE
variable {t : Nat → Nat} {n : Nat}
set_option maxHeartbeats 1000000 in
theorem wl_reads (hn : n ≤ 400) {p : Nat} {τ : wg_M} (hT : wTp t n τ) (hp : p ≤ n) (h16 : τ 0 16 = nI p) : ∃ τ', f_X12_reads 0 τ = some (nI 0, τ') ∧ τ' 0 16 = nI (wkE t n (wsk t n p)) ∧ τ' 0 17 = nI (wsk t n p) ∧ τ' 0 18 = nI (wkS t n (wsk t n p)) ∧ (2 ≤ wkS t n (wsk t n p) → τ' 0 19 = nI (wkV t n (wsk t n p))) ∧ ∀ a i, ¬ (a = 0 ∧ 16 ≤ i ∧ i ≤ 19) → τ' a i = τ a i := by
  obtain ⟨τ1, g, a1, a2, a3⟩ := wl_rd0 hn (n - p) p wg_N τ (by omega) (by rw [wx_N]; omega) hT h16
  obtain ⟨q1, q2, q3, q4⟩ := wsk_f (t := t) hp
  have hT1 : wTp t n τ1 := wTp_fr hT (fun a i z => a3 a i (by omega))
  have e0 : f_X12_reads 0 τ = f_X12_reads_0 (g + 1) 0 τ1 := by rw [e_X12_reads]; exact a1
  rw [e0]
  generalize wsk t n p = q at *
  by_cases c : n ≤ q
  · have r := wl_raw0 hn hT1 c (by omega)
    have hT2 : wTp t n (wg_u (wg_u τ1 0 17 (nI q)) 0 18 (nI 1)) := wTp_fr hT1 (fun a i z => by rw [wx_ur, if_neg (by omega), wx_ur, if_neg (by omega)])
    have r2 := wl_raw0 hn hT2 c (by omega)
    have eE : wkE t n q = q := if_pos c
    have eS : wkS t n q = 0 := if_pos c
    rw [eE, eS]
    refine ⟨wg_u (wg_u (wg_u τ1 0 17 (nI q)) 0 18 (nI 1)) 0 18 (nI 0), ?_, ?_, ?_, ?_, fun z => by omega, fun a i z => ?_⟩
    · simp -implicitDefEqProofs (disch := omega) only [e_X12_reads_0, e_X12_reads_0__1, e_X12_reads_0__2, e_X12_reads_0__3, e_X12_reads_0__4, e_X12_reads_0__5, e_X12_reads_0__6, e_X12_reads_0__7, e_X12_reads_0__8, e_X12_reads_0__9, e_X12_reads_0__10, e_X12_reads_0__11, e_X12_reads_0__12, e_X12_reads_0__13, a2, r, r2, wx_uk, wx_un, pk_us, pk_un, wx_bd, wx_let, wx_st, wx_lit, wx_ga, wx_sa, pk_mul, nI_add, wx_le, wx_lt, wx_eq, wx_en, wx_ne', wx_nn, wx_ltn, wx_len, wx_nlt, wx_nle, wx_bz0, wx_bz1, if_pos, if_neg, wx_ite, Nat.reduceEqDiff, eq_self, if_true, if_false, not_true_eq_false, not_false_eq_true]
    · simp -implicitDefEqProofs (disch := omega) only [wx_uk, wx_un, pk_us, pk_un]; exact a2
    · simp -implicitDefEqProofs (disch := omega) only [wx_uk, wx_un, pk_us, pk_un]
    · simp -implicitDefEqProofs (disch := omega) only [wx_uk, wx_un, pk_us, pk_un]
    · rw [wx_ur, if_neg (by omega), wx_ur, if_neg (by omega), wx_ur, if_neg (by omega)]
      exact a3 a i (by omega)
  · have hqn : q < n := by omega
    have r := wl_raw1 hn hT1 hqn
    have hT2 : wTp t n (wg_u (wg_u τ1 0 17 (nI q)) 0 18 (nI 1)) := wTp_fr hT1 (fun a i z => by rw [wx_ur, if_neg (by omega), wx_ur, if_neg (by omega)])
    have r2 := wl_raw1 hn hT2 hqn
    have tb := (hT1.2.1 q hqn).2
    have nb := q4 hqn
    simp only [wiB, Bool.or_eq_true, beq_iff_eq] at nb
    have b1 : t q ≠ 32 := fun z => nb (Or.inl z)
    have b2 : t q ≠ 10 := fun z => nb (Or.inr z)
    have hT3 : wTp t n (wg_u (wg_u (wg_u (wg_u τ1 0 17 (nI q)) 0 18 (nI 1)) 0 16 (nI (q + 1))) 0 19 (nI (t q))) := wTp_fr hT2 (fun a i z => by rw [wx_ur, if_neg (by omega), wx_ur, if_neg (by omega)])
    by_cases cl : wiL (t q) = true
    · have m := wl_mL1 (τ := wg_u (wg_u (wg_u (wg_u τ1 0 17 (nI q)) 0 18 (nI 1)) 0 16 (nI (q + 1))) 0 19 (nI (t q))) tb cl
      have eE : wkE t n q = wrr (fun k => wiL (t k)) n (q + 1) := by
        unfold wkE
        rw [if_neg c, if_pos cl]
      have wf := wrr_f (fun k => wiL (t k)) n (n - (q + 1)) (q + 1) (by omega)
      obtain ⟨τ2, b3, b4, b5⟩ := wl_rd95 hn (n - (q + 1)) (q + 1) wg_N _ (by omega) (by rw [wx_N]; omega) hT3 (by simp -implicitDefEqProofs (disch := omega) only [wx_uk, wx_un, pk_us, pk_un])
      rw [← eE] at b3 b4 wf
      have hT4 : wTp t n τ2 := wTp_fr hT3 (fun a i z => b5 a i (by omega))
      have wd := wl_wordM hn hT4.2.1 hT4.2.2 (a := q) (b := wkE t n q) (by omega) wf.2.1 (fun i i1 i2 => by
        by_cases e : i = q
        · subst e; exact b1
        · have := wf.2.2.1 i (by omega) i2
          simp only [wiL, Bool.or_eq_true, Bool.and_eq_true, decide_eq_true_eq] at this
          omega)
      have u17 : (wg_u (wg_u (wg_u (wg_u τ1 0 17 (nI q)) 0 18 (nI 1)) 0 16 (nI (q + 1))) 0 19 (nI (t q))) 0 17 = nI q := by simp -implicitDefEqProofs (disch := omega) only [wx_uk, wx_un, pk_us, pk_un]
      rw [u17, wd, wx_bd] at b3
      have e1 : f_X12_reads_0 (g + 1) 0 τ1 = f_X12_reads_95 wg_N 0 (wg_u (wg_u (wg_u (wg_u τ1 0 17 (nI q)) 0 18 (nI 1)) 0 16 (nI (q + 1))) 0 19 (nI (t q))) := by
        simp -implicitDefEqProofs (disch := omega) only [e_X12_reads_0, e_X12_reads_0__1, e_X12_reads_0__2, e_X12_reads_0__3, e_X12_reads_0__4, e_X12_reads_0__5, e_X12_reads_0__6, e_X12_reads_0__7, e_X12_reads_0__8, e_X12_reads_0__9, e_X12_reads_0__10, e_X12_reads_0__11, e_X12_reads_0__12, e_X12_reads_0__13, a2, r, r2, m, wx_uk, wx_un, pk_us, pk_un, wx_bd, wx_let, wx_st, wx_lit, wx_ga, wx_sa, pk_mul, nI_add, wx_le, wx_lt, wx_eq, wx_en, wx_ne', wx_nn, wx_ltn, wx_len, wx_nlt, wx_nle, wx_bz0, wx_bz1, if_pos, if_neg, wx_ite, Nat.reduceEqDiff, eq_self, if_true, if_false, not_true_eq_false, not_false_eq_true]
      rw [e1, b3]
      have v2 : ∀ a i, ¬ (a = 0 ∧ 16 ≤ i ∧ i ≤ 19) → τ2 a i = τ a i := fun a i z => by
        rw [b5 a i (by omega), wx_ur, if_neg (by omega), wx_ur, if_neg (by omega), wx_ur, if_neg (by omega), wx_ur, if_neg (by omega)]
        exact a3 a i (by omega)
      have w17 : τ2 0 17 = nI q := by rw [b5 0 17 (by omega)]; exact u17
      have w18 : τ2 0 18 = nI 1 := by rw [b5 0 18 (by omega)]; simp -implicitDefEqProofs (disch := omega) only [wx_uk, wx_un, pk_us, pk_un]
      rcases wQ_both (wBy t q (wkE t n q - q)) with ⟨z1, z2⟩ | ⟨x, x1, z1, z2⟩
      · have eS : wkS t n q = 1 := by
          unfold wkS
          rw [if_neg c, if_pos cl, if_pos z1]
        rw [z2, eS]
        refine ⟨wg_u τ2 0 19 (-nI 1), ?_, by simp -implicitDefEqProofs (disch := omega) only [wx_uk, wx_un, pk_us, pk_un]; exact b4, by simp -implicitDefEqProofs (disch := omega) only [wx_uk, wx_un, pk_us, pk_un]; exact w17, by simp -implicitDefEqProofs (disch := omega) only [wx_uk, wx_un, pk_us, pk_un]; exact w18, fun z => by omega, fun a i z => by rw [wx_ur, if_neg (by omega)]; exact v2 a i z⟩
        simp -implicitDefEqProofs (disch := omega) only [wx_uk, wx_un, pk_us, pk_un, wx_bd, wx_let, wx_st, wx_lit, wx_ga, wx_sa, pk_mul, nI_add, wx_le, wx_lt, wx_eq, wx_en, wx_ne', wx_nn, wx_ltn, wx_len, wx_nlt, wx_nle, wx_bz0, wx_bz1, if_pos, if_neg, wx_ite, Nat.reduceEqDiff, eq_self, if_true, if_false, not_true_eq_false, not_false_eq_true]
      · have k0 : wKd 2 x ≠ 0 := by
          have : ∀ r, r < 26 → wKd 2 r ≠ 0 := by decide
          exact this x x1
        have eS : wkS t n q = 2 := by
          unfold wkS
          rw [if_neg c, if_pos cl, if_neg (by rw [z1]; exact k0)]
        have eV : wkV t n q = x := by
          unfold wkV
          rw [if_pos cl, z2, nI_toInt (by omega)]
          rfl
        rw [z2, eS, eV]
        refine ⟨wg_u (wg_u τ2 0 19 (nI x)) 0 18 (nI 2), ?_, by simp -implicitDefEqProofs (disch := omega) only [wx_uk, wx_un, pk_us, pk_un]; exact b4, by simp -implicitDefEqProofs (disch := omega) only [wx_uk, wx_un, pk_us, pk_un]; exact w17, by simp -implicitDefEqProofs (disch := omega) only [wx_uk, wx_un, pk_us, pk_un], fun z => by simp -implicitDefEqProofs (disch := omega) only [wx_uk, wx_un, pk_us, pk_un], fun a i z => by rw [wx_ur, if_neg (by omega), wx_ur, if_neg (by omega)]; exact v2 a i z⟩
        simp -implicitDefEqProofs (disch := omega) only [wx_uk, wx_un, pk_us, pk_un, wx_bd, wx_let, wx_st, wx_lit, wx_ga, wx_sa, pk_mul, nI_add, wx_le, wx_lt, wx_eq, wx_en, wx_ne', wx_nn, wx_ltn, wx_len, wx_nlt, wx_nle, wx_bz0, wx_bz1, if_pos, if_neg, wx_ite, Nat.reduceEqDiff, eq_self, if_true, if_false, not_true_eq_false, not_false_eq_true]
    · have m := wl_mL0 (τ := wg_u (wg_u (wg_u (wg_u τ1 0 17 (nI q)) 0 18 (nI 1)) 0 16 (nI (q + 1))) 0 19 (nI (t q))) tb cl
      by_cases cd : wiD (t q) = true
      · have m2 := wl_mD1 (τ := wg_u (wg_u (wg_u (wg_u τ1 0 17 (nI q)) 0 18 (nI 1)) 0 16 (nI (q + 1))) 0 19 (nI (t q))) tb cd
        have eE : wkE t n q = wrr (fun k => wiD (t k)) n (q + 1) := by
          unfold wkE
          rw [if_neg c, if_neg cl, if_pos cd]
        have wf := wrr_f (fun k => wiD (t k)) n (n - (q + 1)) (q + 1) (by omega)
        have cd' := cd
        simp only [wiD, Bool.and_eq_true, decide_eq_true_eq] at cd'
        have sb : nI (t q) - nI 48 = nI (t q - 48) := wx_sub (by omega)
        have hT5 : wTp t n (wg_u (wg_u (wg_u (wg_u (wg_u τ1 0 17 (nI q)) 0 18 (nI 1)) 0 16 (nI (q + 1))) 0 19 (nI (t q))) 0 19 (nI (t q - 48))) := wTp_fr hT3 (fun a i z => by rw [wx_ur, if_neg (by omega)])
        obtain ⟨τ2, v, d1, d2, d3, d4, d5⟩ := wl_rd171 hn hqn (fun k h1 h2 => by
          by_cases e : k = q
          · subst e; exact cd
          · exact wf.2.2.1 k (by omega) h2) (n - (q + 1)) (q + 1) wg_N _ (by omega) (by omega) wf.1 rfl (by rw [wx_N]; omega) hT5 (by simp -implicitDefEqProofs (disch := omega) only [wx_uk, wx_un, pk_us, pk_un]) (by simp -implicitDefEqProofs (disch := omega) only [wx_uk, wx_un, pk_us, pk_un]) (fun _ => by
            simp -implicitDefEqProofs (disch := omega) only [wx_uk, wx_un, pk_us, pk_un]
            rw [show q + 1 - q = 1 by omega]
            show nI (t q - 48) = nI (0 * 10 + t q - 48)
            rw [Nat.zero_mul, Nat.zero_add])
        rw [← eE] at d1 d2 d4
        have e1 : f_X12_reads_0 (g + 1) 0 τ1 = f_X12_reads_171 wg_N 0 (wg_u (wg_u (wg_u (wg_u (wg_u τ1 0 17 (nI q)) 0 18 (nI 1)) 0 16 (nI (q + 1))) 0 19 (nI (t q))) 0 19 (nI (t q - 48))) := by
          simp -implicitDefEqProofs (disch := omega) only [e_X12_reads_0, e_X12_reads_0__1, e_X12_reads_0__2, e_X12_reads_0__3, e_X12_reads_0__4, e_X12_reads_0__5, e_X12_reads_0__6, e_X12_reads_0__7, e_X12_reads_0__8, e_X12_reads_0__9, e_X12_reads_0__10, e_X12_reads_0__11, e_X12_reads_0__12, e_X12_reads_0__13, a2, r, r2, m, m2, sb, wx_uk, wx_un, pk_us, pk_un, wx_bd, wx_let, wx_st, wx_lit, wx_ga, wx_sa, pk_mul, nI_add, wx_le, wx_lt, wx_eq, wx_en, wx_ne', wx_nn, wx_ltn, wx_len, wx_nlt, wx_nle, wx_bz0, wx_bz1, if_pos, if_neg, wx_ite, Nat.reduceEqDiff, eq_self, if_true, if_false, not_true_eq_false, not_false_eq_true]
        rw [e1, d1]
        have v2 : ∀ a i, ¬ (a = 0 ∧ 16 ≤ i ∧ i ≤ 19) → τ2 a i = τ a i := fun a i z => by
          rw [d5 a i (by omega), wx_ur, if_neg (by omega), wx_ur, if_neg (by omega), wx_ur, if_neg (by omega), wx_ur, if_neg (by omega), wx_ur, if_neg (by omega)]
          exact a3 a i (by omega)
        have w17 : τ2 0 17 = nI q := by rw [d5 0 17 (by omega)]; simp -implicitDefEqProofs (disch := omega) only [wx_uk, wx_un, pk_us, pk_un]
        have w18 : τ2 0 18 = nI 1 := by rw [d5 0 18 (by omega)]; simp -implicitDefEqProofs (disch := omega) only [wx_uk, wx_un, pk_us, pk_un]
        by_cases c5 : 5 ≤ wkE t n q - q
        · have eS : wkS t n q = 1 := by
            unfold wkS
            rw [if_neg c, if_neg cl, if_pos cd, if_neg (by omega)]
          rw [if_pos c5, eS]
          exact ⟨τ2, rfl, d2, w17, w18, fun z => by omega, v2⟩
        · have eS : wkS t n q = 3 := by
            unfold wkS
            rw [if_neg c, if_neg cl, if_pos cd, if_pos (by omega)]
          have eV : wkV t n q = wdN t q (wkE t n q - q) 0 := by
            unfold wkV
            rw [if_neg cl, if_pos cd]
          rw [if_neg c5, eS, eV]
          exact ⟨_, rfl, by simp -implicitDefEqProofs (disch := omega) only [wx_uk, wx_un, pk_us, pk_un]; exact d2, by simp -implicitDefEqProofs (disch := omega) only [wx_uk, wx_un, pk_us, pk_un]; exact w17, by simp -implicitDefEqProofs (disch := omega) only [wx_uk, wx_un, pk_us, pk_un], fun z => by simp -implicitDefEqProofs (disch := omega) only [wx_uk, wx_un, pk_us, pk_un]; rw [d3]; exact d4 (by omega), fun a i z => by rw [wx_ur, if_neg (by omega)]; exact v2 a i z⟩
      · have m2 := wl_mD0 (τ := wg_u (wg_u (wg_u (wg_u τ1 0 17 (nI q)) 0 18 (nI 1)) 0 16 (nI (q + 1))) 0 19 (nI (t q))) tb cd
        have eE : wkE t n q = q + 1 := by
          unfold wkE
          rw [if_neg c, if_neg cl, if_neg cd]
        have eV : wkV t n q = t q := by
          unfold wkV
          rw [if_neg cl, if_neg cd]
        rw [eE, eV]
        by_cases cs : wiS (t q) = true
        · have m3 := wl_mS1 (τ := wg_u (wg_u (wg_u (wg_u τ1 0 17 (nI q)) 0 18 (nI 1)) 0 16 (nI (q + 1))) 0 19 (nI (t q))) tb cs
          have eS : wkS t n q = 4 := by
            unfold wkS
            rw [if_neg c, if_neg cl, if_neg cd, if_pos cs]
          rw [eS]
          refine ⟨wg_u (wg_u (wg_u (wg_u (wg_u τ1 0 17 (nI q)) 0 18 (nI 1)) 0 16 (nI (q + 1))) 0 19 (nI (t q))) 0 18 (nI 4), ?_, by simp -implicitDefEqProofs (disch := omega) only [wx_uk, wx_un, pk_us, pk_un], by simp -implicitDefEqProofs (disch := omega) only [wx_uk, wx_un, pk_us, pk_un], by simp -implicitDefEqProofs (disch := omega) only [wx_uk, wx_un, pk_us, pk_un], fun z => by simp -implicitDefEqProofs (disch := omega) only [wx_uk, wx_un, pk_us, pk_un], fun a i z => ?_⟩
          · simp -implicitDefEqProofs (disch := omega) only [e_X12_reads_0, e_X12_reads_0__1, e_X12_reads_0__2, e_X12_reads_0__3, e_X12_reads_0__4, e_X12_reads_0__5, e_X12_reads_0__6, e_X12_reads_0__7, e_X12_reads_0__8, e_X12_reads_0__9, e_X12_reads_0__10, e_X12_reads_0__11, e_X12_reads_0__12, e_X12_reads_0__13, a2, r, r2, m, m2, m3, wx_uk, wx_un, pk_us, pk_un, wx_bd, wx_let, wx_st, wx_lit, wx_ga, wx_sa, pk_mul, nI_add, wx_le, wx_lt, wx_eq, wx_en, wx_ne', wx_nn, wx_ltn, wx_len, wx_nlt, wx_nle, wx_bz0, wx_bz1, if_pos, if_neg, wx_ite, Nat.reduceEqDiff, eq_self, if_true, if_false, not_true_eq_false, not_false_eq_true]
          · rw [wx_ur, if_neg (by omega), wx_ur, if_neg (by omega), wx_ur, if_neg (by omega), wx_ur, if_neg (by omega), wx_ur, if_neg (by omega)]
            exact a3 a i (by omega)
        · have m3 := wl_mS0 (τ := wg_u (wg_u (wg_u (wg_u τ1 0 17 (nI q)) 0 18 (nI 1)) 0 16 (nI (q + 1))) 0 19 (nI (t q))) tb cs
          have eS : wkS t n q = 1 := by
            unfold wkS
            rw [if_neg c, if_neg cl, if_neg cd, if_neg cs]
          rw [eS]
          refine ⟨wg_u (wg_u (wg_u (wg_u τ1 0 17 (nI q)) 0 18 (nI 1)) 0 16 (nI (q + 1))) 0 19 (nI (t q)), ?_, by simp -implicitDefEqProofs (disch := omega) only [wx_uk, wx_un, pk_us, pk_un], by simp -implicitDefEqProofs (disch := omega) only [wx_uk, wx_un, pk_us, pk_un], by simp -implicitDefEqProofs (disch := omega) only [wx_uk, wx_un, pk_us, pk_un], fun z => by omega, fun a i z => ?_⟩
          · simp -implicitDefEqProofs (disch := omega) only [e_X12_reads_0, e_X12_reads_0__1, e_X12_reads_0__2, e_X12_reads_0__3, e_X12_reads_0__4, e_X12_reads_0__5, e_X12_reads_0__6, e_X12_reads_0__7, e_X12_reads_0__8, e_X12_reads_0__9, e_X12_reads_0__10, e_X12_reads_0__11, e_X12_reads_0__12, e_X12_reads_0__13, a2, r, r2, m, m2, m3, wx_uk, wx_un, pk_us, pk_un, wx_bd, wx_let, wx_st, wx_lit, wx_ga, wx_sa, pk_mul, nI_add, wx_le, wx_lt, wx_eq, wx_en, wx_ne', wx_nn, wx_ltn, wx_len, wx_nlt, wx_nle, wx_bz0, wx_bz1, if_pos, if_neg, wx_ite, Nat.reduceEqDiff, eq_self, if_true, if_false, not_true_eq_false, not_false_eq_true]
          · rw [wx_ur, if_neg (by omega), wx_ur, if_neg (by omega), wx_ur, if_neg (by omega), wx_ur, if_neg (by omega)]
            exact a3 a i (by omega)
end RE
def wTF (t : Nat → Nat) (n j : Nat) : Nat := wsk t n (wPo t n j)
def wTS (t : Nat → Nat) (n j : Nat) : Nat := wkS t n (wTF t n j)
def wTV (t : Nat → Nat) (n j : Nat) : Nat := wkV t n (wTF t n j)
def wRM (t : Nat → Nat) (n j : Nat) (τ : wg_M) : Prop := wTp t n τ ∧ τ 0 16 = nI (wPo t n (j + 1)) ∧ τ 0 17 = nI (wTF t n j) ∧ τ 0 18 = nI (wTS t n j) ∧ (2 ≤ wTS t n j → τ 0 19 = nI (wTV t n j))
set_option maxHeartbeats 1000000 in
theorem wRM_0 {t : Nat → Nat} {n j : Nat} (hn : n ≤ 400) {τ : wg_M} (hT : wTp t n τ) (h16 : τ 0 16 = nI (wPo t n j)) : ∃ τ', f_X12_reads 0 τ = some (nI 0, τ') ∧ wRM t n j τ' ∧ ∀ a i, ¬ (a = 0 ∧ 16 ≤ i ∧ i ≤ 19) → τ' a i = τ a i := by
  obtain ⟨τ', a1, a2, a3, a4, a5, a6⟩ := wl_reads hn hT (wPo_le j) h16
  exact ⟨τ', a1, ⟨wTp_fr hT (fun a i q => a6 a i (by omega)), a2, a3, a4, a5⟩, a6⟩
set_option maxHeartbeats 1000000 in
theorem wRM_i {t : Nat → Nat} {n : Nat} (hn : n ≤ 400) (M : Nat) : wTi M (wTS t n) (wTV t n) (wTF t n) (wRM t n) := by
  refine ⟨fun j τ h => ⟨h.2.2.2.1, h.2.2.2.2, h.2.2.1⟩, fun j τ τ' h e => ?_, fun j τ _ h => ?_⟩
  · obtain ⟨h1, h2, h3, h4, h5⟩ := h
    refine ⟨wTp_fr h1 (fun a i q => e a i (by omega)), by rw [e 0 16 (by omega)]; exact h2, by rw [e 0 17 (by omega)]; exact h3, by rw [e 0 18 (by omega)]; exact h4, fun q => by rw [e 0 19 (by omega)]; exact h5 q⟩
  · exact wRM_0 hn h.1 h.2.1

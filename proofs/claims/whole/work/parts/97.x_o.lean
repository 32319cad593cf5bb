def pI (n a i : Nat) : Bool := pS a i || (a == 274 && i == 4) || ((a == 275 || a == 276 || a == 277 || a == 278) && i == n)
def qD (n a i : Nat) : Bool := qS a i || (a == 19 && (decide (48 + 3 * n ≤ i) && decide (i < 48 + 3 * n + 3)))
set_option maxHeartbeats 1000000 in
theorem pSI {n : Nat} (a i : Nat) (h : pS a i = true) : pI n a i = true := by simp [pI, h]
set_option maxHeartbeats 1000000 in
theorem qSD {n : Nat} (a i : Nat) (h : qS a i = true) : qD n a i = true := by simp [qD, h]
set_option maxHeartbeats 1000000 in
theorem pIN {n : Nat} (a i : Nat) (h : pI n a i = true) : pN a i = true := by
  simp only [pI, Bool.or_eq_true, Bool.and_eq_true, beq_iff_eq] at h
  simp only [pN, Bool.or_eq_true, Bool.and_eq_true, beq_iff_eq]
  rcases h with (h | h) | h
  · simp [h]
  · simp [h]
  · rcases h.1 with ((q | q) | q) | q <;> simp [q]
set_option maxHeartbeats 1000000 in
theorem qDN {n : Nat} (a i : Nat) (h : qD n a i = true) : qN a i = true := by
  simp only [qD, Bool.or_eq_true, Bool.and_eq_true, beq_iff_eq, decide_eq_true_eq] at h
  simp only [qN, Bool.or_eq_true, Bool.and_eq_true, beq_iff_eq, decide_eq_true_eq]
  rcases h with h | h
  · exact Or.inl (Or.inl (Or.inl h))
  · exact Or.inl (Or.inl (Or.inr ⟨h.1, by omega⟩))
set_option maxHeartbeats 1000000 in
theorem wE_SI {n : Nat} {σ τ σ' τ' : wg_M} (h : wE pS qS σ τ σ' τ') : wE (pI n) (qD n) σ τ σ' τ' := ⟨wFx_m (wU8_m pSI) h.1, wFx_m qSD h.2.1, h.2.2⟩
set_option maxHeartbeats 1000000 in
theorem wFx_7 {p : Nat → Nat → Bool} {σ σ' : wg_M} (hp : p 260 7 = true) (h : ∀ a i, ¬ (a = 260 ∧ i = 7) → σ' a i = σ a i) : wFx p σ σ' := fun a i q => h a i (by rintro ⟨rfl, rfl⟩; rw [hp] at q; cases q)
set_option maxHeartbeats 1000000 in
theorem wFx_19 {p : Nat → Nat → Bool} {τ τ' : wg_M} (hp : p 0 16 = true ∧ p 0 17 = true ∧ p 0 18 = true ∧ p 0 19 = true) (h : ∀ a i, ¬ (a = 0 ∧ 16 ≤ i ∧ i ≤ 19) → τ' a i = τ a i) : wFx p τ τ' := fun a i q => h a i (by
  rintro ⟨rfl, q1, q2⟩
  obtain ⟨p1, p2, p3, p4⟩ := hp
  rcases (show i = 16 ∨ i = 17 ∨ i = 18 ∨ i = 19 by omega) with rfl | rfl | rfl | rfl
  · rw [p1] at q; cases q
  · rw [p2] at q; cases q
  · rw [p3] at q; cases q
  · rw [p4] at q; cases q)
def wDl (nj nc l : Nat) (σ τ : wg_M) : Prop := σ 275 l = τ 19 (48 + 3 * l) ∧ σ 277 l = τ 19 (48 + 3 * l + 1) ∧ σ 278 l = τ 19 (48 + 3 * l + 2) ∧ (∃ c, c < nc ∧ τ 19 (48 + 3 * l + 1) = nI c) ∧ ∃ j, j < nj ∧ τ 19 (48 + 3 * l + 2) = nI j
section DK
variable {M : Nat} {TS TV TF : Nat → Nat} {RM : Nat → wg_M → Prop} {nj nc : Nat}
set_option maxHeartbeats 1000000 in
theorem wl_dkl (hO : wTo M TS TV) (hI : wTi M TS TV TF RM) {j n : Nat} {σ τ : wg_M} (hn : n < 16) (hjc : nj ≤ 10 ∧ nc ≤ 14) (hc : wTc M TS TV TF j σ) (hm : RM j τ) (h4 : σ 274 4 = nI n) (s16 : σ 1 6 = nI nc) (s115 : σ 11 5 = nI nj) (t8 : τ 0 8 = nI nc) (t7 : τ 0 7 = nI nj) (hin : TS j = 2 ∧ TV j = 17) : (∃ σ' τ' j', f_X6_readPlanLine 260 (nI 1) σ = some (nI 1, σ') ∧ f_X12_readDocketLine 0 (nI (48 + 3 * n)) τ = some (nI 0, τ') ∧ wTc M TS TV TF j' σ' ∧ RM j' τ' ∧ j < j' ∧ σ' 274 4 = nI (n + 1) ∧ wDl nj nc n σ' τ' ∧ wFx (pI n) σ σ' ∧ wFx (qD n) τ τ') ∨ (∃ σ' τ', f_X6_readPlanLine 260 (nI 1) σ = some (nI 0, σ') ∧ f_X12_readDocketLine 0 (nI (48 + 3 * n)) τ = some (-nI 1, τ') ∧ wE (pI n) (qD n) σ τ σ' τ') := by
  obtain ⟨hM, hM0, hv⟩ := id hO
  obtain ⟨jM, h6, h7, hk⟩ := id hc
  obtain ⟨k1, -, -⟩ := hk j jM
  have hvj := hv j jM
  have k1 : σ 262 j = nI 273 := by rw [k1, (wKd_w hvj (r := 17) (by omega)).2 hin]; rfl
  have nm : ∀ x : Nat, x ≤ 9999 → ¬ nI x = -nI 1 := fun x hx => by rw [wx_en (by omega) (by omega) (by omega)]; exact fun q => q
  have q4 : ∀ n, qD n 0 16 = true ∧ qD n 0 17 = true ∧ qD n 0 18 = true ∧ qD n 0 19 = true := fun n => ⟨rfl, rfl, rfl, rfl⟩
  have w0 : qD n 19 (48 + 3 * n) = true := by simp [qD]
  have w1 : qD n 19 (48 + 3 * n + 1) = true := by simp [qD]
  have w2 : qD n 19 (48 + 3 * n + 2) = true := by simp [qD]
  rcases wl_wn hO hI hc hm (w := 17) (by omega) (nI 0) (nI 999) with ⟨y, σ1, τ1, -, -, a3, a4, a5, a6, a7, a8, a9, a10, a11, a12⟩ | ⟨σ1, τ1, q, -⟩ | ⟨σ1, τ1, -, -, a3, a4, a5, a6⟩
  · have a6 : f_X6_expect 260 (nI 273) σ = some (nI 1, wg_u σ 260 7 (nI (j + 1))) := a6
    have ny := nm y a3
    have hm1 : RM (j + 2) (wg_u τ1 19 (48 + 3 * n) (nI y)) := hI.2.1 _ τ1 _ a10 (fun a i q => by rw [wx_ur, if_neg (by omega)])
    have c1 : σ1 1 6 = nI nc := by rw [a11 1 6 (by omega)]; exact s16
    have c2 : (wg_u τ1 19 (48 + 3 * n) (nI y)) 0 8 = nI nc := by rw [wx_un (by omega), a12 0 8 (by omega)]; exact t8
    have fσ1 : wFx (pI n) σ σ1 := wFx_7 rfl a11
    have fτ1 : wFx (qD n) τ (wg_u τ1 19 (48 + 3 * n) (nI y)) := wFx_u (wFx_19 (q4 n) a12) w0
    have ya : (wg_u τ1 19 (48 + 3 * n) (nI y)) 19 (48 + 3 * n) = nI y := by rw [wx_uk, pk_us]
    generalize hA : wg_u τ1 19 (48 + 3 * n) (nI y) = τa at *
    rcases wl_wn hO hI a9 hm1 (w := 18) (by omega) (nI 0) (nI nc - nI 1) with ⟨c, σ2, τ2, -, -, b3, b4, b5, b6, b7, b8, b9, b10, b11, b12⟩ | ⟨σ2, τ2, -, b1, b2, b3⟩ | ⟨σ2, τ2, -, -, b3, b4, b5, b6⟩
    · have b6 : f_X6_expect 260 (nI 274) σ1 = some (nI 1, wg_u σ1 260 7 (nI (j + 2 + 1))) := b6
      have nc' := nm c b3
      have clt := wx_upto (by omega) b5 (by omega)
      have hm2 : RM (j + 2 + 2) (wg_u τ2 19 (48 + 3 * n + 1) (nI c)) := hI.2.1 _ τ2 _ b10 (fun a i q => by rw [wx_ur, if_neg (by omega)])
      have c3 : σ2 11 5 = nI nj := by rw [b11 11 5 (by omega), a11 11 5 (by omega)]; exact s115
      have c4 : (wg_u τ2 19 (48 + 3 * n + 1) (nI c)) 0 7 = nI nj := by rw [wx_un (by omega), b12 0 7 (by omega), ← hA, wx_un (by omega), a12 0 7 (by omega)]; exact t7
      have u1 : (wg_u σ1 260 7 (nI (j + 2 + 1))) 1 6 = nI nc := by rw [wx_un (by omega)]; exact c1
      have fσ2 : wFx (pI n) σ σ2 := wFx_t fσ1 (wFx_7 rfl b11)
      have fτ2 : wFx (qD n) τ (wg_u τ2 19 (48 + 3 * n + 1) (nI c)) := wFx_u (wFx_t fτ1 (wFx_19 (q4 n) b12)) w1
      have cb : (wg_u τ2 19 (48 + 3 * n + 1) (nI c)) 19 (48 + 3 * n + 1) = nI c := by rw [wx_uk, pk_us]
      generalize hB : wg_u τ2 19 (48 + 3 * n + 1) (nI c) = τb at *
      have g2 : σ2 274 4 = nI n := by rw [b11 274 4 (by omega), a11 274 4 (by omega)]; exact h4
      rcases wl_wn hO hI b9 hm2 (w := 19) (by omega) (nI 0) (nI nj - nI 1) with ⟨e, σ3, τ3, -, -, d3, d4, d5, d6, d7, d8, d9, d10, d11, d12⟩ | ⟨σ3, τ3, -, d1, d2, d3⟩ | ⟨σ3, τ3, -, -, d3, d4, d5, d6⟩
      · have d6 : f_X6_expect 260 (nI 275) σ2 = some (nI 1, wg_u σ2 260 7 (nI (j + 2 + 2 + 1))) := d6
        have ne' := nm e d3
        have elt := wx_upto (by omega) d5 (by omega)
        have u2 : (wg_u σ2 260 7 (nI (j + 2 + 2 + 1))) 11 5 = nI nj := by rw [wx_un (by omega)]; exact c3
        have g3 : σ3 274 4 = nI n := by rw [d11 274 4 (by omega)]; exact g2
        have ad := wl_add hn g3 (nI y) (nI 0) (nI c) (nI e)
        have hcA : wTc M TS TV TF (j + 2 + 2 + 2) (wg_u (wg_u (wg_u (wg_u (wg_u σ3 275 n (nI y)) 276 n (nI 0)) 277 n (nI c)) 278 n (nI e)) 274 4 (nI (n + 1))) := wTc_fr d9 (fun a i q => by rw [wx_ur, if_neg (by omega), wx_ur, if_neg (by omega), wx_ur, if_neg (by omega), wx_ur, if_neg (by omega), wx_ur, if_neg (by omega)])
        have hm3 : RM (j + 2 + 2 + 2) (wg_u τ3 19 (48 + 3 * n + 2) (nI e)) := hI.2.1 _ τ3 _ d10 (fun a i q => by rw [wx_ur, if_neg (by omega)])
        have fσ3 : wFx (pI n) σ (wg_u (wg_u (wg_u (wg_u (wg_u σ3 275 n (nI y)) 276 n (nI 0)) 277 n (nI c)) 278 n (nI e)) 274 4 (nI (n + 1))) := wFx_u (wFx_u (wFx_u (wFx_u (wFx_u (wFx_t fσ2 (wFx_7 rfl d11)) (by simp [pI, wU8])) (by simp [pI, wU8])) (by simp [pI, wU8])) (by simp [pI, wU8])) rfl
        have fτ3 : wFx (qD n) τ (wg_u τ3 19 (48 + 3 * n + 2) (nI e)) := wFx_u (wFx_t fτ2 (wFx_19 (q4 n) d12)) w2
        have x0 : (wg_u τ3 19 (48 + 3 * n + 2) (nI e)) 19 (48 + 3 * n) = nI y := by
          rw [wx_uk, pk_un (by omega), d12 19 _ (by omega), ← hB, wx_uk, pk_un (by omega), b12 19 _ (by omega), ← hA, wx_uk, pk_us]
        have x1 : (wg_u τ3 19 (48 + 3 * n + 2) (nI e)) 19 (48 + 3 * n + 1) = nI c := by
          rw [wx_uk, pk_un (by omega), d12 19 _ (by omega), ← hB, wx_uk, pk_us]
        have x2 : (wg_u τ3 19 (48 + 3 * n + 2) (nI e)) 19 (48 + 3 * n + 2) = nI e := by rw [wx_uk, pk_us]
        rcases wl_mk hO hI hcA hm3 with ⟨τ4, z1, z2, z3, z4, z5⟩ | ⟨σ4, τ4, z1, z2, z3⟩
        · refine Or.inl ⟨_, τ4, j + 2 + 2 + 2 + 1, ?_, ?_, z3, z4, by omega, by simp -implicitDefEqProofs (disch := omega) only [wx_uk, wx_un, pk_us, pk_un], ?_, wFx_u fσ3 rfl, wFx_t fτ3 (wFx_19 (q4 n) z5)⟩
          · simp -implicitDefEqProofs (disch := omega) only [e_X6_readPlanLine, e_X6_readPlanLine__1, e_X6_readPlanLine__2, e_X6_readPlanLine__3, e_X6_readPlanLine__4, e_X6_readPlanLine_53, e_X6_readPlanLine_53__1, e_X6_readHearing, e_X6_readHearing__1, e_X6_readHearing__2, e_X6_readHearing__3, e_X6_readHearing__4, e_X6_readHearing__5, e_X6_readJudge, e_X6_readJudge__1, e_X6_expectFirst, e_X6_expectFirst__1, e_X6_expectFirst__2, e_X6_expectFirst_25, e_X6_expectFirst_25__1, h4, h7, k1, a6, a7, ny, c1, u1, b6, b7, nc', c3, u2, d6, d7, ad, ne', z1, wx_bd, wx_let, wx_st, wx_lit, wx_ga, wx_sa, pk_mul, nI_add, wx_le, wx_lt, wx_eq, wx_en, wx_ne', wx_nn, wx_ltn, wx_len, wx_nlt, wx_nle, wx_bz0, wx_bz1, if_pos, if_neg, wx_ite, Nat.reduceEqDiff, eq_self, if_true, if_false, not_true_eq_false, not_false_eq_true]
          · simp -implicitDefEqProofs (disch := omega) only [e_X12_readDocketLine, e_X12_readDocketLine__1, e_X12_readDocketLine__2, e_X12_readDocketLine__3, e_X12_readDocketLine__4, e_X12_readDocketLine__5, e_X12_readDocketLine__6, e_X12_readDocketLine__7, e_X12_readDocketLine__8, e_X12_readDocketLine__9, e_X12_readDocketLine__10, a8, hA, ya, ny, c2, b8, hB, cb, nc', c4, d8, ne', z2, wx_uk, wx_un, pk_us, pk_un, wx_bd, wx_let, wx_st, wx_lit, wx_ga, wx_sa, pk_mul, nI_add, wx_le, wx_lt, wx_eq, wx_en, wx_ne', wx_nn, wx_ltn, wx_len, wx_nlt, wx_nle, wx_bz0, wx_bz1, if_pos, if_neg, wx_ite, Nat.reduceEqDiff, eq_self, if_true, if_false, not_true_eq_false, not_false_eq_true]
          · refine ⟨?_, ?_, ?_, ⟨c, clt, ?_⟩, e, elt, ?_⟩
            · rw [z5 19 _ (by omega), x0]; simp -implicitDefEqProofs (disch := omega) only [wx_uk, wx_un, pk_us, pk_un]
            · rw [z5 19 _ (by omega), x1]; simp -implicitDefEqProofs (disch := omega) only [wx_uk, wx_un, pk_us, pk_un]
            · rw [z5 19 _ (by omega), x2]; simp -implicitDefEqProofs (disch := omega) only [wx_uk, wx_un, pk_us, pk_un]
            · rw [z5 19 _ (by omega), x1]
            · rw [z5 19 _ (by omega), x2]
        · refine Or.inr ⟨σ4, τ4, ?_, ?_, wE_t fσ3 fτ3 (wE_SI z3)⟩
          · simp -implicitDefEqProofs (disch := omega) only [e_X6_readPlanLine, e_X6_readPlanLine__1, e_X6_readPlanLine__2, e_X6_readPlanLine__3, e_X6_readPlanLine__4, e_X6_readPlanLine_53, e_X6_readPlanLine_53__1, e_X6_readHearing, e_X6_readHearing__1, e_X6_readHearing__2, e_X6_readHearing__3, e_X6_readHearing__4, e_X6_readHearing__5, e_X6_readJudge, e_X6_readJudge__1, e_X6_expectFirst, e_X6_expectFirst__1, e_X6_expectFirst__2, e_X6_expectFirst_25, e_X6_expectFirst_25__1, h4, h7, k1, a6, a7, ny, c1, u1, b6, b7, nc', c3, u2, d6, d7, ad, ne', z1, wx_bd, wx_let, wx_st, wx_lit, wx_ga, wx_sa, pk_mul, nI_add, wx_le, wx_lt, wx_eq, wx_en, wx_ne', wx_nn, wx_ltn, wx_len, wx_nlt, wx_nle, wx_bz0, wx_bz1, if_pos, if_neg, wx_ite, Nat.reduceEqDiff, eq_self, if_true, if_false, not_true_eq_false, not_false_eq_true]
          · simp -implicitDefEqProofs (disch := omega) only [e_X12_readDocketLine, e_X12_readDocketLine__1, e_X12_readDocketLine__2, e_X12_readDocketLine__3, e_X12_readDocketLine__4, e_X12_readDocketLine__5, e_X12_readDocketLine__6, e_X12_readDocketLine__7, e_X12_readDocketLine__8, e_X12_readDocketLine__9, e_X12_readDocketLine__10, a8, hA, ya, ny, c2, b8, hB, cb, nc', c4, d8, ne', z2, wx_uk, wx_un, pk_us, pk_un, wx_bd, wx_let, wx_st, wx_lit, wx_ga, wx_sa, pk_mul, nI_add, wx_le, wx_lt, wx_eq, wx_en, wx_ne', wx_nn, wx_ltn, wx_len, wx_nlt, wx_nle, wx_bz0, wx_bz1, if_pos, if_neg, wx_ite, Nat.reduceEqDiff, eq_self, if_true, if_false, not_true_eq_false, not_false_eq_true]
      · have d1 : f_X6_expect 260 (nI 275) σ2 = some (nI 0, σ3) := d1
        refine Or.inr ⟨σ3, wg_u τ3 19 (48 + 3 * n + 2) (-nI 1), ?_, ?_, ?_⟩
        · simp -implicitDefEqProofs (disch := omega) only [e_X6_readPlanLine, e_X6_readPlanLine__1, e_X6_readPlanLine__2, e_X6_readPlanLine__3, e_X6_readPlanLine__4, e_X6_readPlanLine_53, e_X6_readPlanLine_53__1, e_X6_readHearing, e_X6_readHearing__1, e_X6_readHearing__2, e_X6_readHearing__3, e_X6_readHearing__4, e_X6_readHearing__5, e_X6_expectFirst, e_X6_expectFirst__1, e_X6_expectFirst__2, e_X6_expectFirst_25, e_X6_expectFirst_25__1, h4, h7, k1, a6, a7, ny, c1, u1, b6, b7, nc', d1, wx_bd, wx_let, wx_st, wx_lit, wx_ga, wx_sa, pk_mul, nI_add, wx_le, wx_lt, wx_eq, wx_en, wx_ne', wx_nn, wx_ltn, wx_len, wx_nlt, wx_nle, wx_bz0, wx_bz1, if_pos, if_neg, wx_ite, Nat.reduceEqDiff, eq_self, if_true, if_false, not_true_eq_false, not_false_eq_true]
        · simp -implicitDefEqProofs (disch := omega) only [e_X12_readDocketLine, e_X12_readDocketLine__1, e_X12_readDocketLine__2, e_X12_readDocketLine__3, e_X12_readDocketLine__4, e_X12_readDocketLine__5, e_X12_readDocketLine__6, e_X12_readDocketLine__7, e_X12_readDocketLine__8, e_X12_readDocketLine__9, e_X12_readDocketLine__10, a8, hA, ya, ny, c2, b8, hB, cb, nc', c4, d2, wx_uk, wx_un, pk_us, pk_un, wx_bd, wx_let, wx_st, wx_lit, wx_ga, wx_sa, pk_mul, nI_add, wx_le, wx_lt, wx_eq, wx_en, wx_ne', wx_nn, wx_ltn, wx_len, wx_nlt, wx_nle, wx_bz0, wx_bz1, if_pos, if_neg, wx_ite, Nat.reduceEqDiff, eq_self, if_true, if_false, not_true_eq_false, not_false_eq_true]
        · obtain ⟨e1, e2, e3, e4⟩ := wE_t fσ2 fτ2 (wE_SI (n := n) d3)
          exact ⟨e1, wFx_u e2 w2, by rw [wx_un (by omega)]; exact e3, by rw [wx_un (by omega)]; exact e4⟩
      · have d3 : f_X6_expect 260 (nI 275) σ2 = some (nI 1, wg_u σ2 260 7 (nI (j + 2 + 2 + 1))) := d3
        have u2 : (wg_u σ2 260 7 (nI (j + 2 + 2 + 1))) 11 5 = nI nj := by rw [wx_un (by omega)]; exact c3
        obtain ⟨e1, e2, e3, e4⟩ := wE_t fσ2 fτ2 (wE_SI (n := n) d6)
        have g3 : σ3 274 4 = nI n := by rw [d6.1 274 4 rfl]; exact g2
        have ad := wl_add hn g3 (nI y) (nI 0) (nI c) (-nI 1)
        refine Or.inr ⟨wg_u (wg_u (wg_u (wg_u (wg_u σ3 275 n (nI y)) 276 n (nI 0)) 277 n (nI c)) 278 n (-nI 1)) 274 4 (nI (n + 1)), wg_u τ3 19 (48 + 3 * n + 2) (-nI 1), ?_, ?_, wFx_u (wFx_u (wFx_u (wFx_u (wFx_u e1 (by simp [pI, wU8])) (by simp [pI, wU8])) (by simp [pI, wU8])) (by simp [pI, wU8])) rfl, wFx_u e2 w2, ?_, ?_⟩
        · simp -implicitDefEqProofs (disch := omega) only [e_X6_readPlanLine, e_X6_readPlanLine__1, e_X6_readPlanLine__2, e_X6_readPlanLine__3, e_X6_readPlanLine__4, e_X6_readPlanLine_53, e_X6_readPlanLine_53__1, e_X6_readHearing, e_X6_readHearing__1, e_X6_readHearing__2, e_X6_readHearing__3, e_X6_readHearing__4, e_X6_readHearing__5, e_X6_readJudge, e_X6_readJudge__1, e_X6_expectFirst, e_X6_expectFirst__1, e_X6_expectFirst__2, e_X6_expectFirst_25, e_X6_expectFirst_25__1, h4, h7, k1, a6, a7, ny, c1, u1, b6, b7, nc', c3, u2, d3, d4, ad, wx_bd, wx_let, wx_st, wx_lit, wx_ga, wx_sa, pk_mul, nI_add, wx_le, wx_lt, wx_eq, wx_en, wx_ne', wx_nn, wx_ltn, wx_len, wx_nlt, wx_nle, wx_bz0, wx_bz1, if_pos, if_neg, wx_ite, Nat.reduceEqDiff, eq_self, if_true, if_false, not_true_eq_false, not_false_eq_true]
        · simp -implicitDefEqProofs (disch := omega) only [e_X12_readDocketLine, e_X12_readDocketLine__1, e_X12_readDocketLine__2, e_X12_readDocketLine__3, e_X12_readDocketLine__4, e_X12_readDocketLine__5, e_X12_readDocketLine__6, e_X12_readDocketLine__7, e_X12_readDocketLine__8, e_X12_readDocketLine__9, e_X12_readDocketLine__10, a8, hA, ya, ny, c2, b8, hB, cb, nc', c4, d5, wx_uk, wx_un, pk_us, pk_un, wx_bd, wx_let, wx_st, wx_lit, wx_ga, wx_sa, pk_mul, nI_add, wx_le, wx_lt, wx_eq, wx_en, wx_ne', wx_nn, wx_ltn, wx_len, wx_nlt, wx_nle, wx_bz0, wx_bz1, if_pos, if_neg, wx_ite, Nat.reduceEqDiff, eq_self, if_true, if_false, not_true_eq_false, not_false_eq_true]
        · simp -implicitDefEqProofs (disch := omega) only [wx_uk, wx_un, pk_us, pk_un]; exact e3
        · simp -implicitDefEqProofs (disch := omega) only [wx_uk, wx_un, pk_us, pk_un]; exact e4
    · have b1 : f_X6_expect 260 (nI 274) σ1 = some (nI 0, σ2) := b1
      obtain ⟨e1, e2, e3, e4⟩ := wE_t fσ1 fτ1 (wE_SI (n := n) b3)
      refine Or.inr ⟨σ2, wg_u τ2 19 (48 + 3 * n + 1) (-nI 1), ?_, ?_, e1, wFx_u e2 w1, ?_, ?_⟩
      · simp -implicitDefEqProofs (disch := omega) only [e_X6_readPlanLine, e_X6_readPlanLine__1, e_X6_readPlanLine__2, e_X6_readPlanLine__3, e_X6_readPlanLine__4, e_X6_readPlanLine_53, e_X6_readPlanLine_53__1, e_X6_readHearing, e_X6_readHearing__1, e_X6_readHearing__2, e_X6_readHearing__3, e_X6_readHearing__4, e_X6_readHearing__5, e_X6_expectFirst, e_X6_expectFirst__1, e_X6_expectFirst__2, e_X6_expectFirst_25, e_X6_expectFirst_25__1, h4, h7, k1, a6, a7, ny, b1, wx_bd, wx_let, wx_st, wx_lit, wx_ga, wx_sa, pk_mul, nI_add, wx_le, wx_lt, wx_eq, wx_en, wx_ne', wx_nn, wx_ltn, wx_len, wx_nlt, wx_nle, wx_bz0, wx_bz1, if_pos, if_neg, wx_ite, Nat.reduceEqDiff, eq_self, if_true, if_false, not_true_eq_false, not_false_eq_true]
      · simp -implicitDefEqProofs (disch := omega) only [e_X12_readDocketLine, e_X12_readDocketLine__1, e_X12_readDocketLine__2, e_X12_readDocketLine__3, e_X12_readDocketLine__4, e_X12_readDocketLine__5, e_X12_readDocketLine__6, e_X12_readDocketLine__7, e_X12_readDocketLine__8, e_X12_readDocketLine__9, e_X12_readDocketLine__10, a8, hA, ya, ny, c2, b2, wx_uk, wx_un, pk_us, pk_un, wx_bd, wx_let, wx_st, wx_lit, wx_ga, wx_sa, pk_mul, nI_add, wx_le, wx_lt, wx_eq, wx_en, wx_ne', wx_nn, wx_ltn, wx_len, wx_nlt, wx_nle, wx_bz0, wx_bz1, if_pos, if_neg, wx_ite, Nat.reduceEqDiff, eq_self, if_true, if_false, not_true_eq_false, not_false_eq_true]
      · simp -implicitDefEqProofs (disch := omega) only [wx_uk, wx_un, pk_us, pk_un]; exact e3
      · simp -implicitDefEqProofs (disch := omega) only [wx_uk, wx_un, pk_us, pk_un]; exact e4
    · have b3 : f_X6_expect 260 (nI 274) σ1 = some (nI 1, wg_u σ1 260 7 (nI (j + 2 + 1))) := b3
      have u1 : (wg_u σ1 260 7 (nI (j + 2 + 1))) 1 6 = nI nc := by rw [wx_un (by omega)]; exact c1
      obtain ⟨e1, e2, e3, e4⟩ := wE_t fσ1 fτ1 (wE_SI (n := n) b6)
      refine Or.inr ⟨σ2, wg_u τ2 19 (48 + 3 * n + 1) (-nI 1), ?_, ?_, e1, wFx_u e2 w1, ?_, ?_⟩
      · simp -implicitDefEqProofs (disch := omega) only [e_X6_readPlanLine, e_X6_readPlanLine__1, e_X6_readPlanLine__2, e_X6_readPlanLine__3, e_X6_readPlanLine__4, e_X6_readPlanLine_53, e_X6_readPlanLine_53__1, e_X6_readHearing, e_X6_readHearing__1, e_X6_readHearing__2, e_X6_readHearing__3, e_X6_readHearing__4, e_X6_readHearing__5, e_X6_expectFirst, e_X6_expectFirst__1, e_X6_expectFirst__2, e_X6_expectFirst_25, e_X6_expectFirst_25__1, h4, h7, k1, a6, a7, ny, u1, b3, b4, wx_bd, wx_let, wx_st, wx_lit, wx_ga, wx_sa, pk_mul, nI_add, wx_le, wx_lt, wx_eq, wx_en, wx_ne', wx_nn, wx_ltn, wx_len, wx_nlt, wx_nle, wx_bz0, wx_bz1, if_pos, if_neg, wx_ite, Nat.reduceEqDiff, eq_self, if_true, if_false, not_true_eq_false, not_false_eq_true]
      · simp -implicitDefEqProofs (disch := omega) only [e_X12_readDocketLine, e_X12_readDocketLine__1, e_X12_readDocketLine__2, e_X12_readDocketLine__3, e_X12_readDocketLine__4, e_X12_readDocketLine__5, e_X12_readDocketLine__6, e_X12_readDocketLine__7, e_X12_readDocketLine__8, e_X12_readDocketLine__9, e_X12_readDocketLine__10, a8, hA, ya, ny, c2, b5, wx_uk, wx_un, pk_us, pk_un, wx_bd, wx_let, wx_st, wx_lit, wx_ga, wx_sa, pk_mul, nI_add, wx_le, wx_lt, wx_eq, wx_en, wx_ne', wx_nn, wx_ltn, wx_len, wx_nlt, wx_nle, wx_bz0, wx_bz1, if_pos, if_neg, wx_ite, Nat.reduceEqDiff, eq_self, if_true, if_false, not_true_eq_false, not_false_eq_true]
      · simp -implicitDefEqProofs (disch := omega) only [wx_uk, wx_un, pk_us, pk_un]; exact e3
      · simp -implicitDefEqProofs (disch := omega) only [wx_uk, wx_un, pk_us, pk_un]; exact e4
  · exact absurd hin q
  · have a3 : f_X6_expect 260 (nI 273) σ = some (nI 1, wg_u σ 260 7 (nI (j + 1))) := a3
    obtain ⟨e1, e2, e3, e4⟩ := wE_SI (n := n) a6
    refine Or.inr ⟨σ1, wg_u τ1 19 (48 + 3 * n) (-nI 1), ?_, ?_, e1, wFx_u e2 w0, ?_, ?_⟩
    · simp -implicitDefEqProofs (disch := omega) only [e_X6_readPlanLine, e_X6_readPlanLine__1, e_X6_readPlanLine__2, e_X6_readPlanLine__3, e_X6_readPlanLine__4, e_X6_expectFirst, e_X6_expectFirst__1, e_X6_expectFirst__2, e_X6_expectFirst_25, e_X6_expectFirst_25__1, h4, h7, k1, a3, a4, wx_bd, wx_let, wx_st, wx_lit, wx_ga, wx_sa, pk_mul, nI_add, wx_le, wx_lt, wx_eq, wx_en, wx_ne', wx_nn, wx_ltn, wx_len, wx_nlt, wx_nle, wx_bz0, wx_bz1, if_pos, if_neg, wx_ite, Nat.reduceEqDiff, eq_self, if_true, if_false, not_true_eq_false, not_false_eq_true]
    · simp -implicitDefEqProofs (disch := omega) only [e_X12_readDocketLine, e_X12_readDocketLine__1, e_X12_readDocketLine__2, e_X12_readDocketLine__3, e_X12_readDocketLine__4, e_X12_readDocketLine__5, e_X12_readDocketLine__6, e_X12_readDocketLine__7, e_X12_readDocketLine__8, e_X12_readDocketLine__9, e_X12_readDocketLine__10, a5, wx_uk, wx_un, pk_us, pk_un, wx_bd, wx_let, wx_st, wx_lit, wx_ga, wx_sa, pk_mul, nI_add, wx_le, wx_lt, wx_eq, wx_en, wx_ne', wx_nn, wx_ltn, wx_len, wx_nlt, wx_nle, wx_bz0, wx_bz1, if_pos, if_neg, wx_ite, Nat.reduceEqDiff, eq_self, if_true, if_false, not_true_eq_false, not_false_eq_true]
    · simp -implicitDefEqProofs (disch := omega) only [wx_uk, wx_un, pk_us, pk_un]; exact e3
    · simp -implicitDefEqProofs (disch := omega) only [wx_uk, wx_un, pk_us, pk_un]; exact e4
end DK

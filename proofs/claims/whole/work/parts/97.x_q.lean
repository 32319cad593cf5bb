def qB (n a i : Nat) : Bool := qS a i || (a == 20 && (decide (64 + 4 * n ≤ i) && decide (i < 64 + 4 * n + 4)))
set_option maxHeartbeats 1000000 in
theorem qSB {n : Nat} (a i : Nat) (h : qS a i = true) : qB n a i = true := by simp [qB, h]
set_option maxHeartbeats 1000000 in
theorem qBN {n : Nat} (a i : Nat) (h : qB n a i = true) : qN a i = true := by
  simp only [qB, Bool.or_eq_true, Bool.and_eq_true, beq_iff_eq, decide_eq_true_eq] at h
  simp only [qN, Bool.or_eq_true, Bool.and_eq_true, beq_iff_eq, decide_eq_true_eq]
  rcases h with h | h
  · exact Or.inl (Or.inl (Or.inl h))
  · exact Or.inl (Or.inr ⟨h.1, by omega⟩)
set_option maxHeartbeats 1000000 in
theorem wE_SB {n : Nat} {σ τ σ' τ' : wg_M} (h : wE pS qS σ τ σ' τ') : wE (pI n) (qB n) σ τ σ' τ' := ⟨wFx_m (wU8_m pSI) h.1, wFx_m qSB h.2.1, h.2.2⟩
def wLv4 (nw nj l : Nat) (σ τ : wg_M) : Prop := σ 275 l = τ 20 (64 + 4 * l) ∧ σ 276 l = τ 20 (64 + 4 * l + 1) ∧ σ 277 l = τ 20 (64 + 4 * l + 2) ∧ σ 278 l = τ 20 (64 + 4 * l + 3) ∧ (∃ w, w < nw ∧ τ 20 (64 + 4 * l + 2) = nI w) ∧ ((τ 20 (64 + 4 * l + 1) = nI 0 ∧ ∃ j, j < nj ∧ τ 20 (64 + 4 * l + 3) = nI j) ∨ τ 20 (64 + 4 * l + 1) = nI 1 ∨ (τ 20 (64 + 4 * l + 1) = nI 2 ∧ ∃ c, c < 8 ∧ τ 20 (64 + 4 * l + 3) = nI c) ∨ (τ 20 (64 + 4 * l + 1) = nI 3 ∧ ∃ g, 1 ≤ g ∧ g ≤ 99 ∧ τ 20 (64 + 4 * l + 3) = nI g))
section LO
variable {M : Nat} {TS TV TF : Nat → Nat} {RM : Nat → wg_M → Prop} {nw nj : Nat}
set_option maxHeartbeats 1000000 in
/-- the end of a loan's line -/
theorem wl_lof (hO : wTo M TS TV) (hI : wTi M TS TV TF RM) {j n j3 y k x v : Nat} {σ τ σ3 τ3 : wg_M} (hn : n < 16) (hc : wTc M TS TV TF j3 σ3) (hm : RM j3 τ3) (hj : j < j3) (h4 : σ3 274 4 = nI n) (fσ : wFx (pI n) σ σ3) (fτ : wFx (qB n) τ τ3) (b0 : τ3 20 (64 + 4 * n) = nI y) (b1 : τ3 20 (64 + 4 * n + 1) = nI k) (b2 : τ3 20 (64 + 4 * n + 2) = nI x) (hx : x < nw) (hv : (k = 0 ∧ v < nj) ∨ k = 1 ∨ (k = 2 ∧ v < 8) ∨ (k = 3 ∧ 1 ≤ v ∧ v ≤ 99)) (hC : ∀ b s, (b = nI 0 ∨ b = nI 1) → f_X6_expect 260 (nI 59) (wg_u (wg_u (wg_u (wg_u (wg_u σ3 275 n (nI y)) 276 n (nI k)) 277 n (nI x)) 278 n (nI v)) 274 4 (nI (n + 1))) = some (b, s) → f_X6_readPlanLine 260 (nI 2) σ = some (b, s)) (hR : ∀ b s, f_X12_readMark 0 (nI 59) (wg_u τ3 20 (64 + 4 * n + 3) (nI v)) = some (b, s) → f_X12_readLoan 0 (nI (64 + 4 * n)) τ = some (b, s)) : (∃ σ' τ' j', f_X6_readPlanLine 260 (nI 2) σ = some (nI 1, σ') ∧ f_X12_readLoan 0 (nI (64 + 4 * n)) τ = some (nI 0, τ') ∧ wTc M TS TV TF j' σ' ∧ RM j' τ' ∧ j < j' ∧ σ' 274 4 = nI (n + 1) ∧ wLv4 nw nj n σ' τ' ∧ wFx (pI n) σ σ' ∧ wFx (qB n) τ τ') ∨ (∃ σ' τ', f_X6_readPlanLine 260 (nI 2) σ = some (nI 0, σ') ∧ f_X12_readLoan 0 (nI (64 + 4 * n)) τ = some (-nI 1, τ') ∧ wE (pI n) (qB n) σ τ σ' τ') := by
  have hcA : wTc M TS TV TF j3 (wg_u (wg_u (wg_u (wg_u (wg_u σ3 275 n (nI y)) 276 n (nI k)) 277 n (nI x)) 278 n (nI v)) 274 4 (nI (n + 1))) := wTc_fr hc (fun a i q => by rw [wx_ur, if_neg (by omega), wx_ur, if_neg (by omega), wx_ur, if_neg (by omega), wx_ur, if_neg (by omega), wx_ur, if_neg (by omega)])
  have hmA : RM j3 (wg_u τ3 20 (64 + 4 * n + 3) (nI v)) := hI.2.1 _ τ3 _ hm (fun a i q => by rw [wx_ur, if_neg (by omega)])
  have w3 : qB n 20 (64 + 4 * n + 3) = true := by simp [qB]
  have fσ3 : wFx (pI n) σ (wg_u (wg_u (wg_u (wg_u (wg_u σ3 275 n (nI y)) 276 n (nI k)) 277 n (nI x)) 278 n (nI v)) 274 4 (nI (n + 1))) := wFx_u (wFx_u (wFx_u (wFx_u (wFx_u fσ (by simp [pI, wU8])) (by simp [pI, wU8])) (by simp [pI, wU8])) (by simp [pI, wU8])) rfl
  have fτ3 : wFx (qB n) τ (wg_u τ3 20 (64 + 4 * n + 3) (nI v)) := wFx_u fτ w3
  rcases wl_mk hO hI hcA hmA with ⟨τ4, z1, z2, z3, z4, z5⟩ | ⟨σ4, τ4, z1, z2, z3⟩
  · have y0 : τ4 20 (64 + 4 * n) = nI y := by rw [z5 20 _ (by omega), wx_uk, pk_un (by omega)]; exact b0
    have y1 : τ4 20 (64 + 4 * n + 1) = nI k := by rw [z5 20 _ (by omega), wx_uk, pk_un (by omega)]; exact b1
    have y2 : τ4 20 (64 + 4 * n + 2) = nI x := by rw [z5 20 _ (by omega), wx_uk, pk_un (by omega)]; exact b2
    have y3 : τ4 20 (64 + 4 * n + 3) = nI v := by rw [z5 20 _ (by omega), wx_uk, pk_us]
    refine Or.inl ⟨_, τ4, j3 + 1, hC _ _ (Or.inr rfl) z1, hR _ _ z2, z3, z4, by omega, by simp -implicitDefEqProofs (disch := omega) only [wx_uk, wx_un, pk_us, pk_un], ⟨?_, ?_, ?_, ?_, ⟨x, hx, y2⟩, ?_⟩, wFx_u fσ3 rfl, wFx_t fτ3 (wFx_19 ⟨rfl, rfl, rfl, rfl⟩ z5)⟩
    · rw [y0]; simp -implicitDefEqProofs (disch := omega) only [wx_uk, wx_un, pk_us, pk_un]
    · rw [y1]; simp -implicitDefEqProofs (disch := omega) only [wx_uk, wx_un, pk_us, pk_un]
    · rw [y2]; simp -implicitDefEqProofs (disch := omega) only [wx_uk, wx_un, pk_us, pk_un]
    · rw [y3]; simp -implicitDefEqProofs (disch := omega) only [wx_uk, wx_un, pk_us, pk_un]
    · rw [y1, y3]
      rcases hv with ⟨rfl, q⟩ | rfl | ⟨rfl, q⟩ | ⟨rfl, q⟩
      · exact Or.inl ⟨rfl, v, q, rfl⟩
      · exact Or.inr (Or.inl rfl)
      · exact Or.inr (Or.inr (Or.inl ⟨rfl, v, q, rfl⟩))
      · exact Or.inr (Or.inr (Or.inr ⟨rfl, v, q.1, q.2, rfl⟩))
  · exact Or.inr ⟨σ4, τ4, hC _ _ (Or.inl rfl) z1, hR _ _ z2, wE_t fσ3 fτ3 (wE_SB z3)⟩
set_option maxHeartbeats 1000000 in
theorem wl_lol (hO : wTo M TS TV) (hI : wTi M TS TV TF RM) {j n : Nat} {σ τ : wg_M} (hn : n < 16) (hjc : nw ≤ 8 ∧ nj ≤ 10) (hc : wTc M TS TV TF j σ) (hm : RM j τ) (h4 : σ 274 4 = nI n) (s28 : σ 2 8 = nI nw) (s115 : σ 11 5 = nI nj) (t6 : τ 0 6 = nI nw) (t7 : τ 0 7 = nI nj) (hin : TS j = 2 ∧ TV j = 17) : (∃ σ' τ' j', f_X6_readPlanLine 260 (nI 2) σ = some (nI 1, σ') ∧ f_X12_readLoan 0 (nI (64 + 4 * n)) τ = some (nI 0, τ') ∧ wTc M TS TV TF j' σ' ∧ RM j' τ' ∧ j < j' ∧ σ' 274 4 = nI (n + 1) ∧ wLv4 nw nj n σ' τ' ∧ wFx (pI n) σ σ' ∧ wFx (qB n) τ τ') ∨ (∃ σ' τ', f_X6_readPlanLine 260 (nI 2) σ = some (nI 0, σ') ∧ f_X12_readLoan 0 (nI (64 + 4 * n)) τ = some (-nI 1, τ') ∧ wE (pI n) (qB n) σ τ σ' τ') := by
  obtain ⟨hM, hM0, hv⟩ := id hO
  obtain ⟨jM, h6, h7, hk⟩ := id hc
  obtain ⟨k1, -, -⟩ := hk j jM
  have hvj := hv j jM
  have k1 : σ 262 j = nI 273 := by rw [k1, (wKd_w hvj (r := 17) (by omega)).2 hin]; rfl
  have nm : ∀ x : Nat, x ≤ 9999 → ¬ nI x = -nI 1 := fun x hx => by rw [wx_en (by omega) (by omega) (by omega)]; exact fun q => q
  have q4 : ∀ n, qB n 0 16 = true ∧ qB n 0 17 = true ∧ qB n 0 18 = true ∧ qB n 0 19 = true := fun n => ⟨rfl, rfl, rfl, rfl⟩
  have w0 : qB n 20 (64 + 4 * n) = true := by simp [qB]
  have w1 : qB n 20 (64 + 4 * n + 1) = true := by simp [qB]
  have w2 : qB n 20 (64 + 4 * n + 2) = true := by simp [qB]
  have w3 : qB n 20 (64 + 4 * n + 3) = true := by simp [qB]
  rcases wl_wn hO hI hc hm (w := 17) (by omega) (nI 0) (nI 999) with ⟨y, σ1, τ1, -, -, a3, a4, a5, a6, a7, a8, a9, a10, a11, a12⟩ | ⟨σ1, τ1, q, -⟩ | ⟨σ1, τ1, -, -, a3, a4, a5, a6⟩
  · have a6 : f_X6_expect 260 (nI 273) σ = some (nI 1, wg_u σ 260 7 (nI (j + 1))) := a6
    have ny := nm y a3
    have hm1 : RM (j + 2) (wg_u τ1 20 (64 + 4 * n) (nI y)) := hI.2.1 _ τ1 _ a10 (fun a i q => by rw [wx_ur, if_neg (by omega)])
    have fσ1 : wFx (pI n) σ σ1 := wFx_7 rfl a11
    have fτ1 : wFx (qB n) τ (wg_u τ1 20 (64 + 4 * n) (nI y)) := wFx_u (wFx_19 (q4 n) a12) w0
    have ya : (wg_u τ1 20 (64 + 4 * n) (nI y)) 20 (64 + 4 * n) = nI y := by rw [wx_uk, pk_us]
    have ta6 : (wg_u τ1 20 (64 + 4 * n) (nI y)) 0 6 = nI nw := by rw [wx_un (by omega), a12 0 6 (by omega)]; exact t6
    have ta7 : (wg_u τ1 20 (64 + 4 * n) (nI y)) 0 7 = nI nj := by rw [wx_un (by omega), a12 0 7 (by omega)]; exact t7
    generalize hA : wg_u τ1 20 (64 + 4 * n) (nI y) = τa at *
    obtain ⟨j1M, g6, g7, gk⟩ := id a9
    obtain ⟨l1, -, -⟩ := gk (j + 2) j1M
    obtain ⟨r1, r2, r3⟩ := hI.1 (j + 2) τa hm1
    have hv1 := hv (j + 2) j1M
    have kl1 := wKd_lt hv1
    have p1 : f_X6_readPlanLine 260 (nI 2) σ = wg_bd (f_X6_readLoan 260 (nI y) σ1) (fun v s => f_X6_readPlanLine_53 260 v s) := by
      simp -implicitDefEqProofs (disch := omega) only [e_X6_readPlanLine, e_X6_readPlanLine__1, e_X6_readPlanLine__2, e_X6_readPlanLine__3, e_X6_readPlanLine__4, e_X6_expectFirst, e_X6_expectFirst__1, e_X6_expectFirst__2, e_X6_expectFirst_25, e_X6_expectFirst_25__1, h4, h7, k1, a6, a7, ny, wx_bd, wx_let, wx_st, wx_lit, wx_ga, wx_sa, pk_mul, nI_add, wx_le, wx_lt, wx_eq, wx_en, wx_ne', wx_nn, wx_ltn, wx_len, wx_nlt, wx_nle, wx_bz0, wx_bz1, if_pos, if_neg, wx_ite, Nat.reduceEqDiff, eq_self, if_true, if_false, not_true_eq_false, not_false_eq_true]
      rfl
    have key : ∀ r K k, ((r = 20 ∧ K = 276 ∧ k = 0) ∨ (r = 22 ∧ K = 278 ∧ k = 1) ∨ (r = 23 ∧ K = 279 ∧ k = 2) ∨ (r = 24 ∧ K = 280 ∧ k = 3)) → TS (j + 2) = 2 ∧ TV (j + 2) = r → σ1 262 (j + 2) = nI K → f_X12_kindOfLoan 0 τa = some (nI k, τa) → (∃ σ' τ' j', f_X6_readPlanLine 260 (nI 2) σ = some (nI 1, σ') ∧ f_X12_readLoan 0 (nI (64 + 4 * n)) τ = some (nI 0, τ') ∧ wTc M TS TV TF j' σ' ∧ RM j' τ' ∧ j < j' ∧ σ' 274 4 = nI (n + 1) ∧ wLv4 nw nj n σ' τ' ∧ wFx (pI n) σ σ' ∧ wFx (qB n) τ τ') ∨ (∃ σ' τ', f_X6_readPlanLine 260 (nI 2) σ = some (nI 0, σ') ∧ f_X12_readLoan 0 (nI (64 + 4 * n)) τ = some (-nI 1, τ') ∧ wE (pI n) (qB n) σ τ σ' τ') := fun r K k hr ht kK kM => by
      have jlt := wTo_lt hO j1M (by omega)
      have hc2 := wTc_nx a9 jlt
      obtain ⟨τ2, t1, t2, t3⟩ := hI.2.2 (j + 2) τa jlt hm1
      have hm2 : RM (j + 2 + 1) (wg_u τ2 20 (64 + 4 * n + 1) (nI k)) := hI.2.1 _ τ2 _ t2 (fun a i q => by rw [wx_ur, if_neg (by omega)])
      have fτ2 : wFx (qB n) τ (wg_u τ2 20 (64 + 4 * n + 1) (nI k)) := wFx_u (wFx_t fτ1 (wFx_19 (q4 n) t3)) w1
      have tb6 : (wg_u τ2 20 (64 + 4 * n + 1) (nI k)) 0 6 = nI nw := by rw [wx_un (by omega), t3 0 6 (by omega)]; exact ta6
      have tb7 : (wg_u τ2 20 (64 + 4 * n + 1) (nI k)) 0 7 = nI nj := by rw [wx_un (by omega), t3 0 7 (by omega)]; exact ta7
      have yb : (wg_u τ2 20 (64 + 4 * n + 1) (nI k)) 20 (64 + 4 * n) = nI y := by rw [wx_uk, pk_un (by omega), t3 20 _ (by omega)]; exact ya
      have kb : (wg_u τ2 20 (64 + 4 * n + 1) (nI k)) 20 (64 + 4 * n + 1) = nI k := by rw [wx_uk, pk_us]
      have fσ2 : wFx (pI n) σ (wg_u σ1 260 7 (nI (j + 2 + 1))) := wFx_u fσ1 rfl
      have sb28 : (wg_u σ1 260 7 (nI (j + 2 + 1))) 2 8 = nI nw := by rw [wx_un (by omega), a11 2 8 (by omega)]; exact s28
      have sb11 : (wg_u σ1 260 7 (nI (j + 2 + 1))) 11 5 = nI nj := by rw [wx_un (by omega), a11 11 5 (by omega)]; exact s115
      have sb4 : (wg_u σ1 260 7 (nI (j + 2 + 1))) 274 4 = nI n := by rw [wx_un (by omega), a11 274 4 (by omega)]; exact h4
      generalize hB : wg_u τ2 20 (64 + 4 * n + 1) (nI k) = τb at *
      generalize hS : wg_u σ1 260 7 (nI (j + 2 + 1)) = σ2 at *
      have k10 : k < 10 := by omega
      have nk : ¬ nI k = -nI 1 := nm k (by omega)
      have e44 : f_X6_readLoan 260 (nI y) σ1 = f_X6_readLoan_44 260 (nI y) (nI K) σ1 := by
        rcases hr with ⟨-, rfl, -⟩ | ⟨-, rfl, -⟩ | ⟨-, rfl, -⟩ | ⟨-, rfl, -⟩ <;> simp -implicitDefEqProofs (disch := omega) only [e_X6_readLoan, e_X6_readLoan__1, e_X6_readLoan__2, g7, kK, wx_bd, wx_let, wx_st, wx_lit, wx_ga, wx_sa, pk_mul, nI_add, wx_le, wx_lt, wx_eq, wx_en, wx_ne', wx_nn, wx_ltn, wx_len, wx_nlt, wx_nle, wx_bz0, wx_bz1, if_pos, if_neg, wx_ite, Nat.reduceEqDiff, eq_self, if_true, if_false, not_true_eq_false, not_false_eq_true]
      rcases wl_nbr hO hI hc2 hm2 (nI 0) (nI nw - nI 1) with ⟨τ3, b1, b2, b3, b4, b5, b6, b7, b8, b9⟩ | ⟨σ3, τ3, b1, b2, b3⟩
      · have xlt := wx_upto (by omega) b5 (by omega)
        have nx := nm _ b3
        generalize hx : TV (j + 2 + 1) = x at *
        have hc3 := wTc_nx hc2 b2
        have hm3 : RM (j + 2 + 1 + 1) (wg_u τ3 20 (64 + 4 * n + 2) (nI x)) := hI.2.1 _ τ3 _ b8 (fun a i q => by rw [wx_ur, if_neg (by omega)])
        have fτ3 : wFx (qB n) τ (wg_u τ3 20 (64 + 4 * n + 2) (nI x)) := wFx_u (wFx_t fτ2 (wFx_19 (q4 n) b9)) w2
        have tc7 : (wg_u τ3 20 (64 + 4 * n + 2) (nI x)) 0 7 = nI nj := by rw [wx_un (by omega), b9 0 7 (by omega)]; exact tb7
        have yc : (wg_u τ3 20 (64 + 4 * n + 2) (nI x)) 20 (64 + 4 * n) = nI y := by rw [wx_uk, pk_un (by omega), b9 20 _ (by omega)]; exact yb
        have kc : (wg_u τ3 20 (64 + 4 * n + 2) (nI x)) 20 (64 + 4 * n + 1) = nI k := by rw [wx_uk, pk_un (by omega), b9 20 _ (by omega)]; exact kb
        have xc : (wg_u τ3 20 (64 + 4 * n + 2) (nI x)) 20 (64 + 4 * n + 2) = nI x := by rw [wx_uk, pk_us]
        have fσ3 : wFx (pI n) σ (wg_u σ2 260 7 (nI (j + 2 + 1 + 1))) := wFx_u fσ2 rfl
        have sc11 : (wg_u σ2 260 7 (nI (j + 2 + 1 + 1))) 11 5 = nI nj := by rw [wx_un (by omega)]; exact sb11
        have sc4 : (wg_u σ2 260 7 (nI (j + 2 + 1 + 1))) 274 4 = nI n := by rw [wx_un (by omega)]; exact sb4
        generalize hD : wg_u τ3 20 (64 + 4 * n + 2) (nI x) = τc at *
        generalize hU : wg_u σ2 260 7 (nI (j + 2 + 1 + 1)) = σ3 at *
        rcases hr with ⟨rfl, rfl, rfl⟩ | ⟨rfl, rfl, rfl⟩ | ⟨rfl, rfl, rfl⟩ | ⟨rfl, rfl, rfl⟩
        · rcases wl_wn hO hI hc3 hm3 (w := 21) (by omega) (nI 0) (nI nj - nI 1) with ⟨v, σ4, τ4, -, -, d3, d4, d5, d6, d7, d8, d9, d10, d11, d12⟩ | ⟨σ4, τ4, -, d1, d2, d3⟩ | ⟨σ4, τ4, -, -, d3, d4, d5, d6⟩
          · have d6 : f_X6_expect 260 (nI 277) σ3 = some (nI 1, wg_u σ3 260 7 (nI (j + 2 + 1 + 1 + 1))) := d6
            have u2 : (wg_u σ3 260 7 (nI (j + 2 + 1 + 1 + 1))) 11 5 = nI nj := by rw [wx_un (by omega)]; exact sc11
            have g4 : σ4 274 4 = nI n := by rw [d11 274 4 (by omega)]; exact sc4
            have ad := wl_add hn g4 (nI y) (nI 0) (nI x) (nI v)
            have nv := nm v d3
            refine wl_lof hO hI hn d9 d10 (by omega) g4 (wFx_t fσ3 (wFx_7 rfl d11)) (wFx_t fτ3 (wFx_19 (q4 n) d12)) (by rw [d12 20 _ (by omega)]; exact yc) (by rw [d12 20 _ (by omega)]; exact kc) (by rw [d12 20 _ (by omega)]; exact xc) xlt (Or.inl ⟨rfl, wx_upto (by omega) d5 (by omega)⟩) (fun b s hb e => ?_) (fun b s e => ?_)
            · rw [p1, e44]
              rcases hb with rfl | rfl <;> simp -implicitDefEqProofs (disch := omega) only [e_X6_readLoan_44, e_X6_readLoan_44__1, e_X6_readLoan_44__2, e_X6_readLoan_44__3, e_X6_readLoan_44__4, e_X6_readLoan_44__5, e_X6_readLoan_44__6, e_X6_readLoan_100, e_X6_readLoan_146, e_X6_readLoan_146__1, e_X6_readPlanLine_53, e_X6_readPlanLine_53__1, e_X6_readWig, e_X6_readWig__1, e_X6_readJudge, e_X6_readJudge__1, g7, hS, sb28, b6, nx, hU, d6, u2, d7, ad, nv, e, wx_bd, wx_let, wx_st, wx_lit, wx_ga, wx_sa, pk_mul, nI_add, wx_le, wx_lt, wx_eq, wx_en, wx_ne', wx_nn, wx_ltn, wx_len, wx_nlt, wx_nle, wx_bz0, wx_bz1, if_pos, if_neg, wx_ite, Nat.reduceEqDiff, eq_self, if_true, if_false, not_true_eq_false, not_false_eq_true]
            · simp -implicitDefEqProofs (disch := omega) only [e_X12_readLoan, e_X12_readLoan__1, e_X12_readLoan__2, e_X12_readLoan__3, e_X12_readLoan__4, e_X12_readLoan__5, e_X12_readLoan__6, e_X12_readLoan__7, e_X12_readLoan__8, e_X12_readLoan__9, e_X12_readLoan__10, e_X12_readLoan__11, e_X12_readLoan__12, e_X12_readLoan__13, e_X12_readLoan__14, e_X12_readLoanMore, e_X12_readLoanMore__1, e_X12_readLoanMore__2, e_X12_readLoanMore__3, a8, hA, ya, ny, kM, nk, t1, hB, tb6, b7, hD, xc, nx, tc7, d8, nv, e, wx_uk, wx_un, pk_us, pk_un, wx_bd, wx_let, wx_st, wx_lit, wx_ga, wx_sa, pk_mul, nI_add, wx_le, wx_lt, wx_eq, wx_en, wx_ne', wx_nn, wx_ltn, wx_len, wx_nlt, wx_nle, wx_bz0, wx_bz1, if_pos, if_neg, wx_ite, Nat.reduceEqDiff, eq_self, if_true, if_false, not_true_eq_false, not_false_eq_true]
          · have d1 : f_X6_expect 260 (nI 277) σ3 = some (nI 0, σ4) := d1
            obtain ⟨e1, e2, e3, e4⟩ := wE_t fσ3 fτ3 (wE_SB (n := n) d3)
            have g4 : σ4 274 4 = nI n := by rw [d3.1 274 4 rfl]; exact sc4
            have ad := wl_add hn g4 (nI y) (nI 0) (nI x) (-nI 1)
            refine Or.inr ⟨wg_u (wg_u (wg_u (wg_u (wg_u σ4 275 n (nI y)) 276 n (nI 0)) 277 n (nI x)) 278 n (-nI 1)) 274 4 (nI (n + 1)), wg_u τ4 20 (64 + 4 * n + 3) (-nI 1), ?_, ?_, wFx_u (wFx_u (wFx_u (wFx_u (wFx_u e1 (by simp [pI, wU8])) (by simp [pI, wU8])) (by simp [pI, wU8])) (by simp [pI, wU8])) rfl, wFx_u e2 w3, by simp -implicitDefEqProofs (disch := omega) only [wx_uk, wx_un, pk_us, pk_un]; exact e3, by simp -implicitDefEqProofs (disch := omega) only [wx_uk, wx_un, pk_us, pk_un]; exact e4⟩
            · rw [p1, e44]
              simp -implicitDefEqProofs (disch := omega) only [e_X6_readLoan_44, e_X6_readLoan_44__1, e_X6_readLoan_44__2, e_X6_readLoan_44__3, e_X6_readLoan_44__4, e_X6_readLoan_44__5, e_X6_readLoan_44__6, e_X6_readLoan_100, e_X6_readLoan_146, e_X6_readLoan_146__1, e_X6_readPlanLine_53, e_X6_readPlanLine_53__1, e_X6_readWig, e_X6_readWig__1, e_X6_readJudge, e_X6_readJudge__1, g7, hS, sb28, b6, nx, hU, d1, ad, wx_bd, wx_let, wx_st, wx_lit, wx_ga, wx_sa, pk_mul, nI_add, wx_le, wx_lt, wx_eq, wx_en, wx_ne', wx_nn, wx_ltn, wx_len, wx_nlt, wx_nle, wx_bz0, wx_bz1, if_pos, if_neg, wx_ite, Nat.reduceEqDiff, eq_self, if_true, if_false, not_true_eq_false, not_false_eq_true]
            · simp -implicitDefEqProofs (disch := omega) only [e_X12_readLoan, e_X12_readLoan__1, e_X12_readLoan__2, e_X12_readLoan__3, e_X12_readLoan__4, e_X12_readLoan__5, e_X12_readLoan__6, e_X12_readLoan__7, e_X12_readLoan__8, e_X12_readLoan__9, e_X12_readLoan__10, e_X12_readLoan__11, e_X12_readLoan__12, e_X12_readLoan__13, e_X12_readLoan__14, e_X12_readLoanMore, e_X12_readLoanMore__1, e_X12_readLoanMore__2, e_X12_readLoanMore__3, a8, hA, ya, ny, kM, nk, t1, hB, tb6, b7, hD, xc, nx, tc7, d2, wx_uk, wx_un, pk_us, pk_un, wx_bd, wx_let, wx_st, wx_lit, wx_ga, wx_sa, pk_mul, nI_add, wx_le, wx_lt, wx_eq, wx_en, wx_ne', wx_nn, wx_ltn, wx_len, wx_nlt, wx_nle, wx_bz0, wx_bz1, if_pos, if_neg, wx_ite, Nat.reduceEqDiff, eq_self, if_true, if_false, not_true_eq_false, not_false_eq_true]
          · have d3 : f_X6_expect 260 (nI 277) σ3 = some (nI 1, wg_u σ3 260 7 (nI (j + 2 + 1 + 1 + 1))) := d3
            have u2 : (wg_u σ3 260 7 (nI (j + 2 + 1 + 1 + 1))) 11 5 = nI nj := by rw [wx_un (by omega)]; exact sc11
            obtain ⟨e1, e2, e3, e4⟩ := wE_t fσ3 fτ3 (wE_SB (n := n) d6)
            have g4 : σ4 274 4 = nI n := by rw [d6.1 274 4 rfl]; exact sc4
            have ad := wl_add hn g4 (nI y) (nI 0) (nI x) (-nI 1)
            refine Or.inr ⟨wg_u (wg_u (wg_u (wg_u (wg_u σ4 275 n (nI y)) 276 n (nI 0)) 277 n (nI x)) 278 n (-nI 1)) 274 4 (nI (n + 1)), wg_u τ4 20 (64 + 4 * n + 3) (-nI 1), ?_, ?_, wFx_u (wFx_u (wFx_u (wFx_u (wFx_u e1 (by simp [pI, wU8])) (by simp [pI, wU8])) (by simp [pI, wU8])) (by simp [pI, wU8])) rfl, wFx_u e2 w3, by simp -implicitDefEqProofs (disch := omega) only [wx_uk, wx_un, pk_us, pk_un]; exact e3, by simp -implicitDefEqProofs (disch := omega) only [wx_uk, wx_un, pk_us, pk_un]; exact e4⟩
            · rw [p1, e44]
              simp -implicitDefEqProofs (disch := omega) only [e_X6_readLoan_44, e_X6_readLoan_44__1, e_X6_readLoan_44__2, e_X6_readLoan_44__3, e_X6_readLoan_44__4, e_X6_readLoan_44__5, e_X6_readLoan_44__6, e_X6_readLoan_100, e_X6_readLoan_146, e_X6_readLoan_146__1, e_X6_readPlanLine_53, e_X6_readPlanLine_53__1, e_X6_readWig, e_X6_readWig__1, e_X6_readJudge, e_X6_readJudge__1, g7, hS, sb28, b6, nx, hU, d3, u2, d4, ad, wx_bd, wx_let, wx_st, wx_lit, wx_ga, wx_sa, pk_mul, nI_add, wx_le, wx_lt, wx_eq, wx_en, wx_ne', wx_nn, wx_ltn, wx_len, wx_nlt, wx_nle, wx_bz0, wx_bz1, if_pos, if_neg, wx_ite, Nat.reduceEqDiff, eq_self, if_true, if_false, not_true_eq_false, not_false_eq_true]
            · simp -implicitDefEqProofs (disch := omega) only [e_X12_readLoan, e_X12_readLoan__1, e_X12_readLoan__2, e_X12_readLoan__3, e_X12_readLoan__4, e_X12_readLoan__5, e_X12_readLoan__6, e_X12_readLoan__7, e_X12_readLoan__8, e_X12_readLoan__9, e_X12_readLoan__10, e_X12_readLoan__11, e_X12_readLoan__12, e_X12_readLoan__13, e_X12_readLoan__14, e_X12_readLoanMore, e_X12_readLoanMore__1, e_X12_readLoanMore__2, e_X12_readLoanMore__3, a8, hA, ya, ny, kM, nk, t1, hB, tb6, b7, hD, xc, nx, tc7, d5, wx_uk, wx_un, pk_us, pk_un, wx_bd, wx_let, wx_st, wx_lit, wx_ga, wx_sa, pk_mul, nI_add, wx_le, wx_lt, wx_eq, wx_en, wx_ne', wx_nn, wx_ltn, wx_len, wx_nlt, wx_nle, wx_bz0, wx_bz1, if_pos, if_neg, wx_ite, Nat.reduceEqDiff, eq_self, if_true, if_false, not_true_eq_false, not_false_eq_true]
        · have ad := wl_add hn sc4 (nI y) (nI 1) (nI x) (nI 0)
          refine wl_lof hO hI hn hc3 hm3 (by omega) sc4 fσ3 fτ3 yc kc xc xlt (Or.inr (Or.inl rfl)) (v := 0) (fun b s hb e => ?_) (fun b s e => ?_)
          · rw [p1, e44]
            rcases hb with rfl | rfl <;> simp -implicitDefEqProofs (disch := omega) only [e_X6_readLoan_44, e_X6_readLoan_44__1, e_X6_readLoan_44__2, e_X6_readLoan_44__3, e_X6_readLoan_44__4, e_X6_readLoan_44__5, e_X6_readLoan_44__6, e_X6_readLoan_100, e_X6_readLoan_146, e_X6_readLoan_146__1, e_X6_readPlanLine_53, e_X6_readPlanLine_53__1, e_X6_readWig, e_X6_readWig__1, e_X6_readJudge, e_X6_readJudge__1, g7, hS, sb28, b6, nx, hU, ad, e, wx_bd, wx_let, wx_st, wx_lit, wx_ga, wx_sa, pk_mul, nI_add, wx_le, wx_lt, wx_eq, wx_en, wx_ne', wx_nn, wx_ltn, wx_len, wx_nlt, wx_nle, wx_bz0, wx_bz1, if_pos, if_neg, wx_ite, Nat.reduceEqDiff, eq_self, if_true, if_false, not_true_eq_false, not_false_eq_true]
          · simp -implicitDefEqProofs (disch := omega) only [e_X12_readLoan, e_X12_readLoan__1, e_X12_readLoan__2, e_X12_readLoan__3, e_X12_readLoan__4, e_X12_readLoan__5, e_X12_readLoan__6, e_X12_readLoan__7, e_X12_readLoan__8, e_X12_readLoan__9, e_X12_readLoan__10, e_X12_readLoan__11, e_X12_readLoan__12, e_X12_readLoan__13, e_X12_readLoan__14, e_X12_readLoanMore, e_X12_readLoanMore__1, e_X12_readLoanMore__2, e_X12_readLoanMore__3, a8, hA, ya, ny, kM, nk, t1, hB, tb6, b7, hD, xc, nx, e, wx_uk, wx_un, pk_us, pk_un, wx_bd, wx_let, wx_st, wx_lit, wx_ga, wx_sa, pk_mul, nI_add, wx_le, wx_lt, wx_eq, wx_en, wx_ne', wx_nn, wx_ltn, wx_len, wx_nlt, wx_nle, wx_bz0, wx_bz1, if_pos, if_neg, wx_ite, Nat.reduceEqDiff, eq_self, if_true, if_false, not_true_eq_false, not_false_eq_true]
        · rcases wl_nbr hO hI hc3 hm3 (nI 0) (nI 7) with ⟨τ4, d1, d2, d3, d4, d5, d6, d7, d8, d9⟩ | ⟨σ4, τ4, d1, d2, d3⟩
          · have nv := nm _ d3
            generalize hv4 : TV (j + 2 + 1 + 1) = v at *
            rw [wx_lt (by omega) (by omega)] at d4 d5
            have hc4 := wTc_nx hc3 d2
            have g4 : (wg_u σ3 260 7 (nI (j + 2 + 1 + 1 + 1))) 274 4 = nI n := by rw [wx_un (by omega)]; exact sc4
            have ad := wl_add hn g4 (nI y) (nI 2) (nI x) (nI v)
            refine wl_lof (v := v) hO hI hn hc4 d8 (by omega) g4 (wFx_u fσ3 rfl) (wFx_t fτ3 (wFx_19 (q4 n) d9)) (by rw [d9 20 _ (by omega)]; exact yc) (by rw [d9 20 _ (by omega)]; exact kc) (by rw [d9 20 _ (by omega)]; exact xc) xlt (Or.inr (Or.inr (Or.inl ⟨rfl, by omega⟩))) (fun b s hb e => ?_) (fun b s e => ?_)
            · rw [p1, e44]
              rcases hb with rfl | rfl <;> simp -implicitDefEqProofs (disch := omega) only [e_X6_readLoan_44, e_X6_readLoan_44__1, e_X6_readLoan_44__2, e_X6_readLoan_44__3, e_X6_readLoan_44__4, e_X6_readLoan_44__5, e_X6_readLoan_44__6, e_X6_readLoan_100, e_X6_readLoan_146, e_X6_readLoan_146__1, e_X6_readPlanLine_53, e_X6_readPlanLine_53__1, e_X6_readWig, e_X6_readWig__1, e_X6_readJudge, e_X6_readJudge__1, g7, hS, sb28, b6, nx, hU, d6, ad, nv, e, wx_bd, wx_let, wx_st, wx_lit, wx_ga, wx_sa, pk_mul, nI_add, wx_le, wx_lt, wx_eq, wx_en, wx_ne', wx_nn, wx_ltn, wx_len, wx_nlt, wx_nle, wx_bz0, wx_bz1, if_pos, if_neg, wx_ite, Nat.reduceEqDiff, eq_self, if_true, if_false, not_true_eq_false, not_false_eq_true]
            · simp -implicitDefEqProofs (disch := omega) only [e_X12_readLoan, e_X12_readLoan__1, e_X12_readLoan__2, e_X12_readLoan__3, e_X12_readLoan__4, e_X12_readLoan__5, e_X12_readLoan__6, e_X12_readLoan__7, e_X12_readLoan__8, e_X12_readLoan__9, e_X12_readLoan__10, e_X12_readLoan__11, e_X12_readLoan__12, e_X12_readLoan__13, e_X12_readLoan__14, e_X12_readLoanMore, e_X12_readLoanMore__1, e_X12_readLoanMore__2, e_X12_readLoanMore__3, a8, hA, ya, ny, kM, nk, t1, hB, tb6, b7, hD, xc, nx, d7, nv, e, wx_uk, wx_un, pk_us, pk_un, wx_bd, wx_let, wx_st, wx_lit, wx_ga, wx_sa, pk_mul, nI_add, wx_le, wx_lt, wx_eq, wx_en, wx_ne', wx_nn, wx_ltn, wx_len, wx_nlt, wx_nle, wx_bz0, wx_bz1, if_pos, if_neg, wx_ite, Nat.reduceEqDiff, eq_self, if_true, if_false, not_true_eq_false, not_false_eq_true]
          · obtain ⟨e1, e2, e3, e4⟩ := wE_t fσ3 fτ3 (wE_SB (n := n) d3)
            have g4 : σ4 274 4 = nI n := by rw [d3.1 274 4 rfl]; exact sc4
            have ad := wl_add hn g4 (nI y) (nI 2) (nI x) (-nI 1)
            refine Or.inr ⟨wg_u (wg_u (wg_u (wg_u (wg_u σ4 275 n (nI y)) 276 n (nI 2)) 277 n (nI x)) 278 n (-nI 1)) 274 4 (nI (n + 1)), wg_u τ4 20 (64 + 4 * n + 3) (-nI 1), ?_, ?_, wFx_u (wFx_u (wFx_u (wFx_u (wFx_u e1 (by simp [pI, wU8])) (by simp [pI, wU8])) (by simp [pI, wU8])) (by simp [pI, wU8])) rfl, wFx_u e2 w3, by simp -implicitDefEqProofs (disch := omega) only [wx_uk, wx_un, pk_us, pk_un]; exact e3, by simp -implicitDefEqProofs (disch := omega) only [wx_uk, wx_un, pk_us, pk_un]; exact e4⟩
            · rw [p1, e44]
              simp -implicitDefEqProofs (disch := omega) only [e_X6_readLoan_44, e_X6_readLoan_44__1, e_X6_readLoan_44__2, e_X6_readLoan_44__3, e_X6_readLoan_44__4, e_X6_readLoan_44__5, e_X6_readLoan_44__6, e_X6_readLoan_100, e_X6_readLoan_146, e_X6_readLoan_146__1, e_X6_readPlanLine_53, e_X6_readPlanLine_53__1, e_X6_readWig, e_X6_readWig__1, e_X6_readJudge, e_X6_readJudge__1, g7, hS, sb28, b6, nx, hU, d1, ad, wx_bd, wx_let, wx_st, wx_lit, wx_ga, wx_sa, pk_mul, nI_add, wx_le, wx_lt, wx_eq, wx_en, wx_ne', wx_nn, wx_ltn, wx_len, wx_nlt, wx_nle, wx_bz0, wx_bz1, if_pos, if_neg, wx_ite, Nat.reduceEqDiff, eq_self, if_true, if_false, not_true_eq_false, not_false_eq_true]
            · simp -implicitDefEqProofs (disch := omega) only [e_X12_readLoan, e_X12_readLoan__1, e_X12_readLoan__2, e_X12_readLoan__3, e_X12_readLoan__4, e_X12_readLoan__5, e_X12_readLoan__6, e_X12_readLoan__7, e_X12_readLoan__8, e_X12_readLoan__9, e_X12_readLoan__10, e_X12_readLoan__11, e_X12_readLoan__12, e_X12_readLoan__13, e_X12_readLoan__14, e_X12_readLoanMore, e_X12_readLoanMore__1, e_X12_readLoanMore__2, e_X12_readLoanMore__3, a8, hA, ya, ny, kM, nk, t1, hB, tb6, b7, hD, xc, nx, d2, wx_uk, wx_un, pk_us, pk_un, wx_bd, wx_let, wx_st, wx_lit, wx_ga, wx_sa, pk_mul, nI_add, wx_le, wx_lt, wx_eq, wx_en, wx_ne', wx_nn, wx_ltn, wx_len, wx_nlt, wx_nle, wx_bz0, wx_bz1, if_pos, if_neg, wx_ite, Nat.reduceEqDiff, eq_self, if_true, if_false, not_true_eq_false, not_false_eq_true]
        · rcases wl_nbr hO hI hc3 hm3 (nI 1) (nI 99) with ⟨τ4, d1, d2, d3, d4, d5, d6, d7, d8, d9⟩ | ⟨σ4, τ4, d1, d2, d3⟩
          · have nv := nm _ d3
            generalize hv4 : TV (j + 2 + 1 + 1) = v at *
            rw [wx_lt (by omega) (by omega)] at d4 d5
            have hc4 := wTc_nx hc3 d2
            have g4 : (wg_u σ3 260 7 (nI (j + 2 + 1 + 1 + 1))) 274 4 = nI n := by rw [wx_un (by omega)]; exact sc4
            have ad := wl_add hn g4 (nI y) (nI 3) (nI x) (nI v)
            refine wl_lof (v := v) hO hI hn hc4 d8 (by omega) g4 (wFx_u fσ3 rfl) (wFx_t fτ3 (wFx_19 (q4 n) d9)) (by rw [d9 20 _ (by omega)]; exact yc) (by rw [d9 20 _ (by omega)]; exact kc) (by rw [d9 20 _ (by omega)]; exact xc) xlt (Or.inr (Or.inr (Or.inr ⟨rfl, by omega, by omega⟩))) (fun b s hb e => ?_) (fun b s e => ?_)
            · rw [p1, e44]
              rcases hb with rfl | rfl <;> simp -implicitDefEqProofs (disch := omega) only [e_X6_readLoan_44, e_X6_readLoan_44__1, e_X6_readLoan_44__2, e_X6_readLoan_44__3, e_X6_readLoan_44__4, e_X6_readLoan_44__5, e_X6_readLoan_44__6, e_X6_readLoan_100, e_X6_readLoan_146, e_X6_readLoan_146__1, e_X6_readPlanLine_53, e_X6_readPlanLine_53__1, e_X6_readWig, e_X6_readWig__1, e_X6_readJudge, e_X6_readJudge__1, g7, hS, sb28, b6, nx, hU, d6, ad, nv, e, wx_bd, wx_let, wx_st, wx_lit, wx_ga, wx_sa, pk_mul, nI_add, wx_le, wx_lt, wx_eq, wx_en, wx_ne', wx_nn, wx_ltn, wx_len, wx_nlt, wx_nle, wx_bz0, wx_bz1, if_pos, if_neg, wx_ite, Nat.reduceEqDiff, eq_self, if_true, if_false, not_true_eq_false, not_false_eq_true]
            · simp -implicitDefEqProofs (disch := omega) only [e_X12_readLoan, e_X12_readLoan__1, e_X12_readLoan__2, e_X12_readLoan__3, e_X12_readLoan__4, e_X12_readLoan__5, e_X12_readLoan__6, e_X12_readLoan__7, e_X12_readLoan__8, e_X12_readLoan__9, e_X12_readLoan__10, e_X12_readLoan__11, e_X12_readLoan__12, e_X12_readLoan__13, e_X12_readLoan__14, e_X12_readLoanMore, e_X12_readLoanMore__1, e_X12_readLoanMore__2, e_X12_readLoanMore__3, a8, hA, ya, ny, kM, nk, t1, hB, tb6, b7, hD, xc, nx, d7, nv, e, wx_uk, wx_un, pk_us, pk_un, wx_bd, wx_let, wx_st, wx_lit, wx_ga, wx_sa, pk_mul, nI_add, wx_le, wx_lt, wx_eq, wx_en, wx_ne', wx_nn, wx_ltn, wx_len, wx_nlt, wx_nle, wx_bz0, wx_bz1, if_pos, if_neg, wx_ite, Nat.reduceEqDiff, eq_self, if_true, if_false, not_true_eq_false, not_false_eq_true]
          · obtain ⟨e1, e2, e3, e4⟩ := wE_t fσ3 fτ3 (wE_SB (n := n) d3)
            have g4 : σ4 274 4 = nI n := by rw [d3.1 274 4 rfl]; exact sc4
            have ad := wl_add hn g4 (nI y) (nI 3) (nI x) (-nI 1)
            refine Or.inr ⟨wg_u (wg_u (wg_u (wg_u (wg_u σ4 275 n (nI y)) 276 n (nI 3)) 277 n (nI x)) 278 n (-nI 1)) 274 4 (nI (n + 1)), wg_u τ4 20 (64 + 4 * n + 3) (-nI 1), ?_, ?_, wFx_u (wFx_u (wFx_u (wFx_u (wFx_u e1 (by simp [pI, wU8])) (by simp [pI, wU8])) (by simp [pI, wU8])) (by simp [pI, wU8])) rfl, wFx_u e2 w3, by simp -implicitDefEqProofs (disch := omega) only [wx_uk, wx_un, pk_us, pk_un]; exact e3, by simp -implicitDefEqProofs (disch := omega) only [wx_uk, wx_un, pk_us, pk_un]; exact e4⟩
            · rw [p1, e44]
              simp -implicitDefEqProofs (disch := omega) only [e_X6_readLoan_44, e_X6_readLoan_44__1, e_X6_readLoan_44__2, e_X6_readLoan_44__3, e_X6_readLoan_44__4, e_X6_readLoan_44__5, e_X6_readLoan_44__6, e_X6_readLoan_100, e_X6_readLoan_146, e_X6_readLoan_146__1, e_X6_readPlanLine_53, e_X6_readPlanLine_53__1, e_X6_readWig, e_X6_readWig__1, e_X6_readJudge, e_X6_readJudge__1, g7, hS, sb28, b6, nx, hU, d1, ad, wx_bd, wx_let, wx_st, wx_lit, wx_ga, wx_sa, pk_mul, nI_add, wx_le, wx_lt, wx_eq, wx_en, wx_ne', wx_nn, wx_ltn, wx_len, wx_nlt, wx_nle, wx_bz0, wx_bz1, if_pos, if_neg, wx_ite, Nat.reduceEqDiff, eq_self, if_true, if_false, not_true_eq_false, not_false_eq_true]
            · simp -implicitDefEqProofs (disch := omega) only [e_X12_readLoan, e_X12_readLoan__1, e_X12_readLoan__2, e_X12_readLoan__3, e_X12_readLoan__4, e_X12_readLoan__5, e_X12_readLoan__6, e_X12_readLoan__7, e_X12_readLoan__8, e_X12_readLoan__9, e_X12_readLoan__10, e_X12_readLoan__11, e_X12_readLoan__12, e_X12_readLoan__13, e_X12_readLoan__14, e_X12_readLoanMore, e_X12_readLoanMore__1, e_X12_readLoanMore__2, e_X12_readLoanMore__3, a8, hA, ya, ny, kM, nk, t1, hB, tb6, b7, hD, xc, nx, d2, wx_uk, wx_un, pk_us, pk_un, wx_bd, wx_let, wx_st, wx_lit, wx_ga, wx_sa, pk_mul, nI_add, wx_le, wx_lt, wx_eq, wx_en, wx_ne', wx_nn, wx_ltn, wx_len, wx_nlt, wx_nle, wx_bz0, wx_bz1, if_pos, if_neg, wx_ite, Nat.reduceEqDiff, eq_self, if_true, if_false, not_true_eq_false, not_false_eq_true]
      · obtain ⟨e1, e2, e3, e4⟩ := wE_t fσ2 fτ2 (wE_SB (n := n) b3)
        refine Or.inr ⟨σ3, wg_u τ3 20 (64 + 4 * n + 2) (-nI 1), ?_, ?_, e1, wFx_u e2 w2, by simp -implicitDefEqProofs (disch := omega) only [wx_uk, wx_un, pk_us, pk_un]; exact e3, by simp -implicitDefEqProofs (disch := omega) only [wx_uk, wx_un, pk_us, pk_un]; exact e4⟩
        · rw [p1, e44]
          simp -implicitDefEqProofs (disch := omega) only [e_X6_readLoan_44, e_X6_readLoan_44__1, e_X6_readLoan_44__2, e_X6_readLoan_44__3, e_X6_readLoan_44__4, e_X6_readLoan_44__5, e_X6_readLoan_44__6, e_X6_readPlanLine_53, e_X6_readPlanLine_53__1, e_X6_readWig, e_X6_readWig__1, g7, hS, sb28, b1, wx_bd, wx_let, wx_st, wx_lit, wx_ga, wx_sa, pk_mul, nI_add, wx_le, wx_lt, wx_eq, wx_en, wx_ne', wx_nn, wx_ltn, wx_len, wx_nlt, wx_nle, wx_bz0, wx_bz1, if_pos, if_neg, wx_ite, Nat.reduceEqDiff, eq_self, if_true, if_false, not_true_eq_false, not_false_eq_true]
        · simp -implicitDefEqProofs (disch := omega) only [e_X12_readLoan, e_X12_readLoan__1, e_X12_readLoan__2, e_X12_readLoan__3, e_X12_readLoan__4, e_X12_readLoan__5, e_X12_readLoan__6, e_X12_readLoan__7, e_X12_readLoan__8, e_X12_readLoan__9, e_X12_readLoan__10, e_X12_readLoan__11, e_X12_readLoan__12, e_X12_readLoan__13, e_X12_readLoan__14, a8, hA, ya, ny, kM, nk, t1, hB, tb6, b2, wx_uk, wx_un, pk_us, pk_un, wx_bd, wx_let, wx_st, wx_lit, wx_ga, wx_sa, pk_mul, nI_add, wx_le, wx_lt, wx_eq, wx_en, wx_ne', wx_nn, wx_ltn, wx_len, wx_nlt, wx_nle, wx_bz0, wx_bz1, if_pos, if_neg, wx_ite, Nat.reduceEqDiff, eq_self, if_true, if_false, not_true_eq_false, not_false_eq_true]
    by_cases v20 : TS (j + 2) = 2 ∧ TV (j + 2) = 20
    · have y20 := wl_wd1 r1 r2 v20
      exact key 20 276 0 (Or.inl ⟨rfl, rfl, rfl⟩) v20 (by rw [l1, (wKd_w hv1 (r := 20) (by omega)).2 v20]; rfl) (by simp -implicitDefEqProofs (disch := omega) only [e_X12_kindOfLoan, e_X12_kindOfLoan__1, e_X12_kindOfLoan__2, y20, wx_bd, wx_let, wx_st, wx_lit, wx_ga, wx_sa, pk_mul, nI_add, wx_le, wx_lt, wx_eq, wx_en, wx_ne', wx_nn, wx_ltn, wx_len, wx_nlt, wx_nle, wx_bz0, wx_bz1, if_pos, if_neg, wx_ite, Nat.reduceEqDiff, eq_self, if_true, if_false, not_true_eq_false, not_false_eq_true])
    · have y20 := wl_wd0 (c := 20) hO j1M (by omega) r1 r2 v20
      by_cases v2 : TS (j + 2) = 2
      · have r2 := r2 (by omega)
        have v26 : TV (j + 2) < 26 := by unfold wTv at hv1; omega
        rw [v2] at r1
        by_cases v22 : TV (j + 2) = 22
        · rw [v22] at r2
          have sb : nI (1 + 22) - nI 22 = nI 1 := by decide
          exact key 22 278 1 (by omega) ⟨v2, v22⟩ (by rw [l1, (wKd_w hv1 (r := 22) (by omega)).2 ⟨v2, v22⟩]; rfl) (by simp -implicitDefEqProofs (disch := omega) only [e_X12_kindOfLoan, e_X12_kindOfLoan__1, e_X12_kindOfLoan__2, e_X12_isIn, y20, r1, r2, sb, wx_bd, wx_let, wx_st, wx_lit, wx_ga, wx_sa, pk_mul, nI_add, wx_le, wx_lt, wx_eq, wx_en, wx_ne', wx_nn, wx_ltn, wx_len, wx_nlt, wx_nle, wx_bz0, wx_bz1, if_pos, if_neg, wx_ite, Nat.reduceEqDiff, eq_self, if_true, if_false, not_true_eq_false, not_false_eq_true])
        by_cases v23 : TV (j + 2) = 23
        · rw [v23] at r2
          have sb : nI (1 + 23) - nI 22 = nI 2 := by decide
          exact key 23 279 2 (by omega) ⟨v2, v23⟩ (by rw [l1, (wKd_w hv1 (r := 23) (by omega)).2 ⟨v2, v23⟩]; rfl) (by simp -implicitDefEqProofs (disch := omega) only [e_X12_kindOfLoan, e_X12_kindOfLoan__1, e_X12_kindOfLoan__2, e_X12_isIn, y20, r1, r2, sb, wx_bd, wx_let, wx_st, wx_lit, wx_ga, wx_sa, pk_mul, nI_add, wx_le, wx_lt, wx_eq, wx_en, wx_ne', wx_nn, wx_ltn, wx_len, wx_nlt, wx_nle, wx_bz0, wx_bz1, if_pos, if_neg, wx_ite, Nat.reduceEqDiff, eq_self, if_true, if_false, not_true_eq_false, not_false_eq_true])
        by_cases v24 : TV (j + 2) = 24
        · rw [v24] at r2
          have sb : nI (1 + 24) - nI 22 = nI 3 := by decide
          exact key 24 280 3 (by omega) ⟨v2, v24⟩ (by rw [l1, (wKd_w hv1 (r := 24) (by omega)).2 ⟨v2, v24⟩]; rfl) (by simp -implicitDefEqProofs (disch := omega) only [e_X12_kindOfLoan, e_X12_kindOfLoan__1, e_X12_kindOfLoan__2, e_X12_isIn, y20, r1, r2, sb, wx_bd, wx_let, wx_st, wx_lit, wx_ga, wx_sa, pk_mul, nI_add, wx_le, wx_lt, wx_eq, wx_en, wx_ne', wx_nn, wx_ltn, wx_len, wx_nlt, wx_nle, wx_bz0, wx_bz1, if_pos, if_neg, wx_ite, Nat.reduceEqDiff, eq_self, if_true, if_false, not_true_eq_false, not_false_eq_true])
        have fl := wl_fail hO a9 (nI 1)
        have er := wl_errs (TF := TF) (j := j + 2) r3 (nI 1)
        have kn : ∀ r, (r = 20 ∨ r = 22 ∨ r = 23 ∨ r = 24) → wKd (TS (j + 2)) (TV (j + 2)) ≠ 256 + r := fun r hr q => by
          have e : wKd 2 r = 256 + r := by rcases hr with rfl | rfl | rfl | rfl <;> rfl
          have := (wKd_w hv1 (r := r) (by omega)).1 (q.trans e.symm)
          omega
        have kn0 := kn 20 (by omega)
        have kn2 := kn 22 (by omega)
        have kn3 := kn 23 (by omega)
        have kn4 := kn 24 (by omega)
        have v20' : TV (j + 2) ≠ 20 := fun q => v20 ⟨v2, q⟩
        refine Or.inr ⟨_, _, ?_, ?_, wE_t fσ1 fτ1 (wE_mk (wFx_r _ _) (wFx_r _ _) rfl rfl rfl rfl (nI 1) (nI (TF (j + 2))))⟩
        · rw [p1]
          clear key kn
          generalize wKd (TS (j + 2)) (TV (j + 2)) = K at *
          simp -implicitDefEqProofs (disch := omega) only [e_X6_readLoan, e_X6_readLoan__1, e_X6_readLoan__2, e_X6_readPlanLine_53, e_X6_readPlanLine_53__1, g7, l1, fl, wx_bd, wx_let, wx_st, wx_lit, wx_ga, wx_sa, pk_mul, nI_add, wx_le, wx_lt, wx_eq, wx_en, wx_ne', wx_nn, wx_ltn, wx_len, wx_nlt, wx_nle, wx_bz0, wx_bz1, if_pos, if_neg, wx_ite, Nat.reduceEqDiff, eq_self, if_true, if_false, not_true_eq_false, not_false_eq_true]
        · rcases (show TV (j + 2) < 22 ∨ 24 < TV (j + 2) by omega) with q | q
          · have kM : f_X12_kindOfLoan 0 τa = some (-nI 1, τa) := by simp -implicitDefEqProofs (disch := omega) only [e_X12_kindOfLoan, e_X12_kindOfLoan__1, e_X12_kindOfLoan__2, e_X12_isIn, y20, r1, r2, wx_bd, wx_let, wx_st, wx_lit, wx_ga, wx_sa, pk_mul, nI_add, wx_le, wx_lt, wx_eq, wx_en, wx_ne', wx_nn, wx_ltn, wx_len, wx_nlt, wx_nle, wx_bz0, wx_bz1, if_pos, if_neg, wx_ite, Nat.reduceEqDiff, eq_self, if_true, if_false, not_true_eq_false, not_false_eq_true]
            simp -implicitDefEqProofs (disch := omega) only [e_X12_readLoan, e_X12_readLoan__1, e_X12_readLoan__2, e_X12_readLoan__3, e_X12_readLoan__4, e_X12_readLoan__5, e_X12_readLoan__6, e_X12_readLoan__7, e_X12_readLoan__8, e_X12_readLoan__9, e_X12_readLoan__10, e_X12_readLoan__11, e_X12_readLoan__12, e_X12_readLoan__13, e_X12_readLoan__14, a8, hA, ya, ny, kM, er, wx_uk, wx_un, pk_us, pk_un, wx_bd, wx_let, wx_st, wx_lit, wx_ga, wx_sa, pk_mul, nI_add, wx_le, wx_lt, wx_eq, wx_en, wx_ne', wx_nn, wx_ltn, wx_len, wx_nlt, wx_nle, wx_bz0, wx_bz1, if_pos, if_neg, wx_ite, Nat.reduceEqDiff, eq_self, if_true, if_false, not_true_eq_false, not_false_eq_true]
          · have kM : f_X12_kindOfLoan 0 τa = some (-nI 1, τa) := by simp -implicitDefEqProofs (disch := omega) only [e_X12_kindOfLoan, e_X12_kindOfLoan__1, e_X12_kindOfLoan__2, e_X12_isIn, y20, r1, r2, wx_bd, wx_let, wx_st, wx_lit, wx_ga, wx_sa, pk_mul, nI_add, wx_le, wx_lt, wx_eq, wx_en, wx_ne', wx_nn, wx_ltn, wx_len, wx_nlt, wx_nle, wx_bz0, wx_bz1, if_pos, if_neg, wx_ite, Nat.reduceEqDiff, eq_self, if_true, if_false, not_true_eq_false, not_false_eq_true]
            simp -implicitDefEqProofs (disch := omega) only [e_X12_readLoan, e_X12_readLoan__1, e_X12_readLoan__2, e_X12_readLoan__3, e_X12_readLoan__4, e_X12_readLoan__5, e_X12_readLoan__6, e_X12_readLoan__7, e_X12_readLoan__8, e_X12_readLoan__9, e_X12_readLoan__10, e_X12_readLoan__11, e_X12_readLoan__12, e_X12_readLoan__13, e_X12_readLoan__14, a8, hA, ya, ny, kM, er, wx_uk, wx_un, pk_us, pk_un, wx_bd, wx_let, wx_st, wx_lit, wx_ga, wx_sa, pk_mul, nI_add, wx_le, wx_lt, wx_eq, wx_en, wx_ne', wx_nn, wx_ltn, wx_len, wx_nlt, wx_nle, wx_bz0, wx_bz1, if_pos, if_neg, wx_ite, Nat.reduceEqDiff, eq_self, if_true, if_false, not_true_eq_false, not_false_eq_true]
      · have fl := wl_fail hO a9 (nI 1)
        have er := wl_errs (TF := TF) (j := j + 2) r3 (nI 1)
        have kn : ∀ r, (r = 20 ∨ r = 22 ∨ r = 23 ∨ r = 24) → wKd (TS (j + 2)) (TV (j + 2)) ≠ 256 + r := fun r hr q => by
          have e : wKd 2 r = 256 + r := by rcases hr with rfl | rfl | rfl | rfl <;> rfl
          have := (wKd_w hv1 (r := r) (by omega)).1 (q.trans e.symm)
          omega
        have kn0 := kn 20 (by omega)
        have kn2 := kn 22 (by omega)
        have kn3 := kn 23 (by omega)
        have kn4 := kn 24 (by omega)
        have ts : TS (j + 2) < 100 := by unfold wTv at hv1; omega
        refine Or.inr ⟨_, _, ?_, ?_, wE_t fσ1 fτ1 (wE_mk (wFx_r _ _) (wFx_r _ _) rfl rfl rfl rfl (nI 1) (nI (TF (j + 2))))⟩
        · rw [p1]
          clear key kn
          generalize wKd (TS (j + 2)) (TV (j + 2)) = K at *
          simp -implicitDefEqProofs (disch := omega) only [e_X6_readLoan, e_X6_readLoan__1, e_X6_readLoan__2, e_X6_readPlanLine_53, e_X6_readPlanLine_53__1, g7, l1, fl, wx_bd, wx_let, wx_st, wx_lit, wx_ga, wx_sa, pk_mul, nI_add, wx_le, wx_lt, wx_eq, wx_en, wx_ne', wx_nn, wx_ltn, wx_len, wx_nlt, wx_nle, wx_bz0, wx_bz1, if_pos, if_neg, wx_ite, Nat.reduceEqDiff, eq_self, if_true, if_false, not_true_eq_false, not_false_eq_true]
        · have kM : f_X12_kindOfLoan 0 τa = some (-nI 1, τa) := by simp -implicitDefEqProofs (disch := omega) only [e_X12_kindOfLoan, e_X12_kindOfLoan__1, e_X12_kindOfLoan__2, y20, r1, wx_bd, wx_let, wx_st, wx_lit, wx_ga, wx_sa, pk_mul, nI_add, wx_le, wx_lt, wx_eq, wx_en, wx_ne', wx_nn, wx_ltn, wx_len, wx_nlt, wx_nle, wx_bz0, wx_bz1, if_pos, if_neg, wx_ite, Nat.reduceEqDiff, eq_self, if_true, if_false, not_true_eq_false, not_false_eq_true]
          simp -implicitDefEqProofs (disch := omega) only [e_X12_readLoan, e_X12_readLoan__1, e_X12_readLoan__2, e_X12_readLoan__3, e_X12_readLoan__4, e_X12_readLoan__5, e_X12_readLoan__6, e_X12_readLoan__7, e_X12_readLoan__8, e_X12_readLoan__9, e_X12_readLoan__10, e_X12_readLoan__11, e_X12_readLoan__12, e_X12_readLoan__13, e_X12_readLoan__14, a8, hA, ya, ny, kM, er, wx_uk, wx_un, pk_us, pk_un, wx_bd, wx_let, wx_st, wx_lit, wx_ga, wx_sa, pk_mul, nI_add, wx_le, wx_lt, wx_eq, wx_en, wx_ne', wx_nn, wx_ltn, wx_len, wx_nlt, wx_nle, wx_bz0, wx_bz1, if_pos, if_neg, wx_ite, Nat.reduceEqDiff, eq_self, if_true, if_false, not_true_eq_false, not_false_eq_true]
  · exact absurd hin q
  · have a3 : f_X6_expect 260 (nI 273) σ = some (nI 1, wg_u σ 260 7 (nI (j + 1))) := a3
    obtain ⟨e1, e2, e3, e4⟩ := wE_SB (n := n) a6
    refine Or.inr ⟨σ1, wg_u τ1 20 (64 + 4 * n) (-nI 1), ?_, ?_, e1, wFx_u e2 w0, ?_, ?_⟩
    · simp -implicitDefEqProofs (disch := omega) only [e_X6_readPlanLine, e_X6_readPlanLine__1, e_X6_readPlanLine__2, e_X6_readPlanLine__3, e_X6_readPlanLine__4, e_X6_expectFirst, e_X6_expectFirst__1, e_X6_expectFirst__2, e_X6_expectFirst_25, e_X6_expectFirst_25__1, h4, h7, k1, a3, a4, wx_bd, wx_let, wx_st, wx_lit, wx_ga, wx_sa, pk_mul, nI_add, wx_le, wx_lt, wx_eq, wx_en, wx_ne', wx_nn, wx_ltn, wx_len, wx_nlt, wx_nle, wx_bz0, wx_bz1, if_pos, if_neg, wx_ite, Nat.reduceEqDiff, eq_self, if_true, if_false, not_true_eq_false, not_false_eq_true]
    · simp -implicitDefEqProofs (disch := omega) only [e_X12_readLoan, e_X12_readLoan__1, e_X12_readLoan__2, e_X12_readLoan__3, e_X12_readLoan__4, e_X12_readLoan__5, e_X12_readLoan__6, e_X12_readLoan__7, e_X12_readLoan__8, e_X12_readLoan__9, e_X12_readLoan__10, e_X12_readLoan__11, e_X12_readLoan__12, e_X12_readLoan__13, e_X12_readLoan__14, a5, wx_uk, wx_un, pk_us, pk_un, wx_bd, wx_let, wx_st, wx_lit, wx_ga, wx_sa, pk_mul, nI_add, wx_le, wx_lt, wx_eq, wx_en, wx_ne', wx_nn, wx_ltn, wx_len, wx_nlt, wx_nle, wx_bz0, wx_bz1, if_pos, if_neg, wx_ite, Nat.reduceEqDiff, eq_self, if_true, if_false, not_true_eq_false, not_false_eq_true]
    · simp -implicitDefEqProofs (disch := omega) only [wx_uk, wx_un, pk_us, pk_un]; exact e3
    · simp -implicitDefEqProofs (disch := omega) only [wx_uk, wx_un, pk_us, pk_un]; exact e4
end LO

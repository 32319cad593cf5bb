/-! WIGS, JUDGES, TRIALS and RULES come -/
set_option maxHeartbeats 1000000 in
theorem wR_fg {nw nj nc : Nat} {σ τ σ' τ' : wg_M} (hX : wX false nw nj nc σ' τ') (hY : wY (τ' 1)) (hnx : ∃ nx, nx < 6 ∧ σ' 258 1 = nI nx) (h2 : σ' 258 2 = nI 0) (h3 : τ' 0 3 = nI 0) (hI : wIm σ τ) (hD : wRd σ τ) (f1 : ∀ a, 59 ≤ a → a < 118 ∨ 258 < a → σ' a = σ a) (f2 : ∀ i, 9 ≤ i → τ' 0 i = τ 0 i) (f3 : τ' 9 = τ 9) (f4 : τ' 10 = τ 10) (f5 : τ' 33 = τ 33) : wR σ' τ' := by
  obtain ⟨x1, x2, x3, x4, x5⟩ := hX
  obtain ⟨nx, nx1, nx2⟩ := hnx
  refine ⟨nw, nj, nc, ⟨x1, x2, hY, x3, x4⟩, wP_0 nx1 nx2 h2 h3, ?_, ?_, x5⟩
  · exact wIm_fr (by rw [f1 281 (by omega) (by omega)]) (fun a q1 q2 _ _ _ => f1 a (by omega) (by omega)) (f2 58 (by omega)) f5 hI
  · exact wRd_fr (by rw [f1 260 (by omega) (by omega)]) (by rw [f1 260 (by omega) (by omega)]) (by rw [f1 260 (by omega) (by omega)]) (f1 261 (by omega) (by omega)) (f2 15 (by omega)) (f2 35 (by omega)) (f2 36 (by omega)) f3 f4 hD
set_option maxHeartbeats 1000000 in
theorem wl_newW {th : Bool} {nw nj nc : Nat} {σ τ : wg_M} (h : wX th nw nj nc σ τ) (hw : nw < 8) (x y : Int32) : wX th (nw + 1) nj nc (wg_u (wg_u (wg_u (wg_u (wg_u (wg_u σ 3 nw x) 4 nw y) 5 nw (nI 0)) 6 nw (nI 0)) 7 nw (nI 0)) 2 8 (nI (nw + 1))) (wg_u (wg_u (wg_u (wg_u (wg_u (wg_u τ 4 nw x) 1 (43 + nw) y) 1 (51 + nw) (nI 0)) 1 (59 + nw) (nI 0)) 1 (67 + nw) (nI 0)) 0 6 (nI (nw + 1))) := by
  obtain ⟨⟨n1, n2, n3, n4, n5, n6⟩, ⟨a1, a2, a3, a4, a5⟩, x3, x4, x5⟩ := h
  refine ⟨⟨by omega, n2, n3, ?_, ?_, ?_⟩, ⟨?_, fun j hj => ?_, fun w hv => ?_, fun c hc => ?_, fun j k hj hk => ?_⟩, ?_, ?_, ?_, ?_⟩
  · simp -implicitDefEqProofs (disch := omega) only [wx_uk, wx_un, pk_us, pk_un]
  · simp -implicitDefEqProofs (disch := omega) only [wx_uk, wx_un, pk_us, pk_un]; exact n5
  · simp -implicitDefEqProofs (disch := omega) only [wx_uk, wx_un, pk_us, pk_un]; exact n6
  · simp -implicitDefEqProofs (disch := omega) only [Nat.reduceAdd, wx_uk, wx_un, pk_us, pk_un, true_and] at a1 ⊢
    exact a1.2
  · have u := a2 j hj
    unfold wJ at u ⊢
    simp -implicitDefEqProofs (disch := omega) only [Nat.reduceAdd, wx_uk, wx_un, pk_us, pk_un] at u ⊢
    obtain ⟨u1, u2, u3, u4, u5⟩ := u
    refine ⟨u1, u2, u3, ?_, u5⟩
    rcases u4 with q | ⟨v, v1, v2⟩
    · exact Or.inl q
    · exact Or.inr ⟨v, by omega, v2⟩
  · by_cases cw : w = nw
    · subst cw
      refine ⟨?_, ?_, ?_, ?_, ?_, 0, by omega, ?_, fun i hi => by omega⟩ <;> simp -implicitDefEqProofs (disch := omega) only [Nat.reduceAdd, wx_uk, wx_un, pk_us, pk_un]
    · obtain ⟨c1, c2, c3, c4, c5, k, c6, c7, c8⟩ := a3 w (by omega)
      refine ⟨?_, ?_, ?_, ?_, ?_, k, c6, ?_, fun i hi => ?_⟩
      · simp -implicitDefEqProofs (disch := omega) only [Nat.reduceAdd, wx_uk, wx_un, pk_us, pk_un] at c1 ⊢; exact c1
      · simp -implicitDefEqProofs (disch := omega) only [Nat.reduceAdd, wx_uk, wx_un, pk_us, pk_un] at c2 ⊢; exact c2
      · simp -implicitDefEqProofs (disch := omega) only [Nat.reduceAdd, wx_uk, wx_un, pk_us, pk_un] at c3 ⊢; exact c3
      · simp -implicitDefEqProofs (disch := omega) only [Nat.reduceAdd, wx_uk, wx_un, pk_us, pk_un] at c4 ⊢; exact c4
      · simp -implicitDefEqProofs (disch := omega) only [Nat.reduceAdd, wx_uk, wx_un, pk_us, pk_un] at c5 ⊢; exact c5
      · simp -implicitDefEqProofs (disch := omega) only [Nat.reduceAdd, wx_uk, wx_un, pk_us, pk_un] at c7 ⊢; exact c7
      · have u := c8 i hi
        unfold wU at u ⊢
        simp -implicitDefEqProofs (disch := omega) only [Nat.reduceAdd, wx_uk, wx_un, pk_us, pk_un] at u ⊢
        exact u
  · have u := a4 c hc
    unfold wC at u ⊢
    simp -implicitDefEqProofs (disch := omega) only [Nat.reduceAdd, wx_uk, wx_un, pk_us, pk_un] at u ⊢
    exact u
  · have u := a5 j k hj hk
    simp -implicitDefEqProofs (disch := omega) only [wx_uk, wx_un, pk_us, pk_un]
    exact u
  · exact wPg_fr (fun a q1 q2 => by simp -implicitDefEqProofs (disch := omega) only [wx_uk, wx_un, pk_us, pk_un]) (fun i _ => by simp -implicitDefEqProofs (disch := omega) only [wx_uk, wx_un, pk_us, pk_un]) x3
  · refine wRt_fr (fun a q1 q2 q3 q4 => by simp -implicitDefEqProofs (disch := omega) only [wx_uk, wx_un, pk_us, pk_un]) (fun a i q q1 q8 q4 q5 q6 q7 q0 => ?_) (wRt_mono (nw := nw) (nj := nj) (nc := nc) (by omega) (by omega) (by omega) x4)
    by_cases ca : a = 0
    · subst ca
      have := q0 rfl
      simp -implicitDefEqProofs (disch := omega) only [wx_uk, wx_un, pk_us, pk_un]
    · simp -implicitDefEqProofs (disch := omega) only [wx_un]
  · simp -implicitDefEqProofs (disch := omega) only [wx_uk, wx_un, pk_us, pk_un]; exact x5.1
  · simp -implicitDefEqProofs (disch := omega) only [wx_uk, wx_un, pk_us, pk_un]; exact x5.2
set_option maxHeartbeats 1000000 in
theorem wl_newJ {th : Bool} {nw nj nc : Nat} {σ τ : wg_M} (h : wX th nw nj nc σ τ) (hw : nj < 10) (x y : Int32) : wX th nw (nj + 1) nc (wg_u (wg_u (wg_u (wg_u (wg_u (wg_u σ 12 nj x) 13 nj y) 14 nj (-nI 1)) 15 nj (nI 0)) 16 nj (nI 0)) 11 5 (nI (nj + 1))) (wg_u (wg_u (wg_u (wg_u (wg_u (wg_u τ 1 (3 + nj) x) 1 (13 + nj) (nI 0)) 1 (23 + nj) (nI 0)) 1 (33 + nj) (nI 0)) 5 nj y) 0 7 (nI (nj + 1))) := by
  obtain ⟨⟨n1, n2, n3, n4, n5, n6⟩, ⟨a1, a2, a3, a4, a5⟩, x3, x4, x5⟩ := h
  have e0 : -nI 1 = nI 0 - nI 1 := by decide
  refine ⟨⟨n1, by omega, n3, ?_, ?_, ?_⟩, ⟨?_, fun j hj => ?_, fun w hv => ?_, fun c hc => ?_, fun j k hj hk => ?_⟩, ?_, ?_, ?_, ?_⟩
  · simp -implicitDefEqProofs (disch := omega) only [wx_uk, wx_un, pk_us, pk_un]; exact n4
  · simp -implicitDefEqProofs (disch := omega) only [wx_uk, wx_un, pk_us, pk_un]
  · simp -implicitDefEqProofs (disch := omega) only [wx_uk, wx_un, pk_us, pk_un]; exact n6
  · simp -implicitDefEqProofs (disch := omega) only [Nat.reduceAdd, wx_uk, wx_un, pk_us, pk_un, true_and] at a1 ⊢
    exact ⟨a1.1, a1.2.2⟩
  · by_cases cj : j = nj
    · subst cj
      unfold wJ
      simp -implicitDefEqProofs (disch := omega) only [Nat.reduceAdd, wx_uk, wx_un, pk_us, pk_un]
      exact ⟨trivial, trivial, e0, Or.inl trivial, trivial, Or.inl trivial, trivial⟩
    · have u := a2 j (by omega)
      unfold wJ at u ⊢
      simp -implicitDefEqProofs (disch := omega) only [Nat.reduceAdd, wx_uk, wx_un, pk_us, pk_un] at u ⊢
      exact u
  · obtain ⟨c1, c2, c3, c4, c5, k, c6, c7, c8⟩ := a3 w (by omega)
    refine ⟨?_, ?_, ?_, ?_, ?_, k, c6, ?_, fun i hi => ?_⟩
    · simp -implicitDefEqProofs (disch := omega) only [Nat.reduceAdd, wx_uk, wx_un, pk_us, pk_un] at c1 ⊢; exact c1
    · simp -implicitDefEqProofs (disch := omega) only [Nat.reduceAdd, wx_uk, wx_un, pk_us, pk_un] at c2 ⊢; exact c2
    · simp -implicitDefEqProofs (disch := omega) only [Nat.reduceAdd, wx_uk, wx_un, pk_us, pk_un] at c3 ⊢; exact c3
    · simp -implicitDefEqProofs (disch := omega) only [Nat.reduceAdd, wx_uk, wx_un, pk_us, pk_un] at c4 ⊢; exact c4
    · simp -implicitDefEqProofs (disch := omega) only [Nat.reduceAdd, wx_uk, wx_un, pk_us, pk_un] at c5 ⊢; exact c5
    · simp -implicitDefEqProofs (disch := omega) only [Nat.reduceAdd, wx_uk, wx_un, pk_us, pk_un] at c7 ⊢; exact c7
    · have u := c8 i hi
      unfold wU at u ⊢
      simp -implicitDefEqProofs (disch := omega) only [Nat.reduceAdd, wx_uk, wx_un, pk_us, pk_un] at u ⊢
      exact u
  · have u := a4 c hc
    unfold wC at u ⊢
    simp -implicitDefEqProofs (disch := omega) only [Nat.reduceAdd, wx_uk, wx_un, pk_us, pk_un] at u ⊢
    exact u
  · by_cases cj : j = nj
    · subst cj
      intro _
      left
      simp -implicitDefEqProofs (disch := omega) only [wx_uk, wx_un, pk_us, pk_un]
    · by_cases ck : k = nj
      · subst ck
        intro e
        left
        rw [e]
        simp -implicitDefEqProofs (disch := omega) only [wx_uk, wx_un, pk_us, pk_un]
      · have u := a5 j k (by omega) (by omega)
        simp -implicitDefEqProofs (disch := omega) only [wx_uk, wx_un, pk_us, pk_un]
        exact u
  · exact wPg_fr (fun a q1 q2 => by simp -implicitDefEqProofs (disch := omega) only [wx_uk, wx_un, pk_us, pk_un]) (fun i _ => by simp -implicitDefEqProofs (disch := omega) only [wx_uk, wx_un, pk_us, pk_un]) x3
  · refine wRt_fr (fun a q1 q2 q3 q4 => by simp -implicitDefEqProofs (disch := omega) only [wx_uk, wx_un, pk_us, pk_un]) (fun a i q q1 q8 q4 q5 q6 q7 q0 => ?_) (wRt_mono (nw := nw) (nj := nj) (nc := nc) (by omega) (by omega) (by omega) x4)
    by_cases ca : a = 0
    · subst ca
      have := q0 rfl
      simp -implicitDefEqProofs (disch := omega) only [wx_uk, wx_un, pk_us, pk_un]
    · simp -implicitDefEqProofs (disch := omega) only [wx_un]
  · simp -implicitDefEqProofs (disch := omega) only [wx_uk, wx_un, pk_us, pk_un]; exact x5.1
  · simp -implicitDefEqProofs (disch := omega) only [wx_uk, wx_un, pk_us, pk_un]; exact x5.2
set_option maxHeartbeats 1000000 in
theorem wl_newC {th : Bool} {nw nj nc : Nat} {σ τ : wg_M} (h : wX th nw nj nc σ τ) (hw : nc < 14) {g : Nat} (hg : g < 8) (y : Int32) : wX th nw nj (nc + 1) (wg_u (wg_u (wg_u (wg_u (wg_u σ 17 nc (nI g)) 18 nc y) 19 nc (-nI 10000)) 20 nc (-nI 1)) 1 6 (nI (nc + 1))) (wg_u (wg_u (wg_u (wg_u (wg_u τ 6 nc (nI g)) 7 nc y) 1 (267 + nc) (nI 0)) 1 (281 + nc) (nI 0)) 0 8 (nI (nc + 1))) := by
  obtain ⟨⟨n1, n2, n3, n4, n5, n6⟩, ⟨a1, a2, a3, a4, a5⟩, x3, x4, x5⟩ := h
  have e0 : -nI 1 = nI 0 - nI 1 := by decide
  refine ⟨⟨n1, n2, by omega, ?_, ?_, ?_⟩, ⟨?_, fun j hj => ?_, fun w hv => ?_, fun c hc => ?_, fun j k hj hk => ?_⟩, ?_, ?_, ?_, ?_⟩
  · simp -implicitDefEqProofs (disch := omega) only [wx_uk, wx_un, pk_us, pk_un]; exact n4
  · simp -implicitDefEqProofs (disch := omega) only [wx_uk, wx_un, pk_us, pk_un]; exact n5
  · simp -implicitDefEqProofs (disch := omega) only [wx_uk, wx_un, pk_us, pk_un]
  · simp -implicitDefEqProofs (disch := omega) only [Nat.reduceAdd, wx_uk, wx_un, pk_us, pk_un, true_and] at a1 ⊢
    exact ⟨a1.1, a1.2.1, a1.2.2.2⟩
  · have u := a2 j (by omega)
    unfold wJ at u ⊢
    simp -implicitDefEqProofs (disch := omega) only [Nat.reduceAdd, wx_uk, wx_un, pk_us, pk_un] at u ⊢
    exact u
  · obtain ⟨c1, c2, c3, c4, c5, k, c6, c7, c8⟩ := a3 w (by omega)
    refine ⟨?_, ?_, ?_, ?_, ?_, k, c6, ?_, fun i hi => ?_⟩
    · simp -implicitDefEqProofs (disch := omega) only [Nat.reduceAdd, wx_uk, wx_un, pk_us, pk_un] at c1 ⊢; exact c1
    · simp -implicitDefEqProofs (disch := omega) only [Nat.reduceAdd, wx_uk, wx_un, pk_us, pk_un] at c2 ⊢; exact c2
    · simp -implicitDefEqProofs (disch := omega) only [Nat.reduceAdd, wx_uk, wx_un, pk_us, pk_un] at c3 ⊢; exact c3
    · simp -implicitDefEqProofs (disch := omega) only [Nat.reduceAdd, wx_uk, wx_un, pk_us, pk_un] at c4 ⊢; exact c4
    · simp -implicitDefEqProofs (disch := omega) only [Nat.reduceAdd, wx_uk, wx_un, pk_us, pk_un] at c5 ⊢; exact c5
    · simp -implicitDefEqProofs (disch := omega) only [Nat.reduceAdd, wx_uk, wx_un, pk_us, pk_un] at c7 ⊢; exact c7
    · have u := c8 i hi
      unfold wU at u ⊢
      simp -implicitDefEqProofs (disch := omega) only [Nat.reduceAdd, wx_uk, wx_un, pk_us, pk_un] at u ⊢
      exact u
  · by_cases cc : c = nc
    · subst cc
      unfold wC
      simp -implicitDefEqProofs (disch := omega) only [Nat.reduceAdd, wx_uk, wx_un, pk_us, pk_un]
      exact ⟨trivial, trivial, Or.inl ⟨rfl, rfl⟩, e0, g, hg, rfl⟩
    · have u := a4 c (by omega)
      unfold wC at u ⊢
      simp -implicitDefEqProofs (disch := omega) only [Nat.reduceAdd, wx_uk, wx_un, pk_us, pk_un] at u ⊢
      exact u
  · have u := a5 j k hj hk
    simp -implicitDefEqProofs (disch := omega) only [wx_uk, wx_un, pk_us, pk_un]
    exact u
  · exact wPg_fr (fun a q1 q2 => by simp -implicitDefEqProofs (disch := omega) only [wx_uk, wx_un, pk_us, pk_un]) (fun i _ => by simp -implicitDefEqProofs (disch := omega) only [wx_uk, wx_un, pk_us, pk_un]) x3
  · refine wRt_fr (fun a q1 q2 q3 q4 => by simp -implicitDefEqProofs (disch := omega) only [wx_uk, wx_un, pk_us, pk_un]) (fun a i q q1 q8 q4 q5 q6 q7 q0 => ?_) (wRt_mono (nw := nw) (nj := nj) (nc := nc) (by omega) (by omega) (by omega) x4)
    by_cases ca : a = 0
    · subst ca
      have := q0 rfl
      simp -implicitDefEqProofs (disch := omega) only [wx_uk, wx_un, pk_us, pk_un]
    · simp -implicitDefEqProofs (disch := omega) only [wx_un]
  · simp -implicitDefEqProofs (disch := omega) only [wx_uk, wx_un, pk_us, pk_un]; exact x5.1
  · simp -implicitDefEqProofs (disch := omega) only [wx_uk, wx_un, pk_us, pk_un]; exact x5.2

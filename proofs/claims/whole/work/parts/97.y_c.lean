section TX
variable {σ τ σc τ3 : wg_M}
set_option maxHeartbeats 1000000 in
theorem wl_txE {p q : Nat → Nat → Bool} {σ' τ' : wg_M} (h : wR σ τ) (hp : ∀ a i, (a < 260 ∨ 279 ≤ a) → p a i = false) (hp2 : p 260 2 = false) (hq : ∀ a i, (wLv a i = true ∨ a = 2 ∨ a = 33 ∨ a = 10 ∨ (a = 0 ∧ (i = 3 ∨ i = 5 ∨ i = 58))) → q a i = false) (hc : ∀ a i, (a < 260 ∨ 279 ≤ a) → σc a i = σ a i) (hc2 : σc 260 2 = nI 0) (ht : ∀ a i, ¬ (a = 0 ∧ (i = 0 ∨ (16 ≤ i ∧ i ≤ 19) ∨ (28 ≤ i ∧ i ≤ 30) ∨ i = 35 ∨ i = 36)) → τ3 a i = τ a i) (hE : wE p q σc τ3 σ' τ') : wR σ' (wg_u (wg_u (wg_u τ' 0 35 (τ' 0 33)) 0 36 (τ' 0 34)) 0 15 (nI 0)) := by
  obtain ⟨f1, f2, f3, f4⟩ := hE
  refine wR_tf h (fun a i z => ?_) (fun a i z => ?_) ?_ ?_ ?_ ?_
  · rw [f1 a i (wU8_n a i z (hp a i z))]; exact hc a i z
  · obtain ⟨-, z1, z2⟩ := qL_n a i z
    rw [wx_ur, if_neg (by omega), wx_ur, if_neg (by omega), wx_ur, if_neg (by omega), f2 a i (hq a i z)]
    exact ht a i z1
  · rw [f1 260 2 (by unfold wU8; rw [hp2]; rfl)]; exact hc2
  · rw [wx_uk, pk_us]
  · simp -implicitDefEqProofs (disch := omega) only [wx_uk, wx_un, pk_us, pk_un]; exact f3
  · simp -implicitDefEqProofs (disch := omega) only [wx_uk, wx_un, pk_us, pk_un]; exact f4
set_option maxHeartbeats 1000000 in
/-- THE LAW is told -/
theorem wl_txL {nw nj nc : Nat} {n : Nat} {σ' τ' : wg_M} (hW : wRW nw nj nc σ 0 τ) (hP : wP nw nj nc σ τ) (hI : wIm σ τ) (hD : wRd σ τ) (hF : wFl σ τ) (hc : ∀ a i, (a < 260 ∨ 279 ≤ a) → σc a i = σ a i) (hc2 : σc 260 2 = nI 0) (hc8 : σc 260 8 = nI 0) (hc9 : σc 260 9 = -nI 1) (ht : ∀ a i, ¬ (a = 0 ∧ (i = 0 ∨ (16 ≤ i ∧ i ≤ 19) ∨ (28 ≤ i ∧ i ≤ 30) ∨ i = 35 ∨ i = 36)) → τ3 a i = τ a i) (t28 : τ3 0 28 = nI 0) (t35 : τ3 0 35 = nI 0) (t36 : τ3 0 36 = -nI 1) (hn : n ≤ 16) (h6 : σ' 266 6 = nI n) (hL : wLk n σ' τ') (fσ : wFx pL σc σ') (fτ : wFx qL τ3 τ') : ∃ τ6, f_X12_takesLaw 0 (nI n) (wg_u τ' 0 15 (nI 0)) = some (nI 0, τ6) ∧ wR (wcK 266 26 σ') τ6 := by
  have e28 : (wg_u τ' 0 15 (nI 0)) 0 28 = nI 0 := by rw [wx_uk, pk_un (by omega), fτ 0 28 rfl]; exact t28
  obtain ⟨τ6, a1, a2, a3⟩ := wl_tkL hn h6 (wLk_fr hL (fun a i z => by rw [wx_ur, if_neg z])) e28
  have sC : ∀ a i, (a < 26 ∨ (32 ≤ a ∧ a < 260) ∨ 279 ≤ a) → wcK 266 26 σ' a i = σ a i := fun a i z => by
    rw [wcK_un (by omega), fσ a i (pL_n a i (by omega))]; exact hc a i (by omega)
  have sF : ∀ a, (a < 26 ∨ (32 ≤ a ∧ a < 260) ∨ 279 ≤ a) → wcK 266 26 σ' a = σ a := fun a z => funext fun i => sC a i z
  have tC : ∀ a i, (wLv a i = true ∨ a = 2 ∨ a = 33 ∨ a = 10 ∨ (a = 0 ∧ (i = 3 ∨ i = 5 ∨ i = 58))) → ¬ (11 ≤ a ∧ a ≤ 17) → τ6 a i = τ a i := fun a i z z2 => by
    obtain ⟨y1, y2, y3⟩ := qL_n a i z
    rw [a3 a i (by omega) (by omega) (by omega), wx_ur, if_neg y3, fτ a i y1]
    exact ht a i y2
  have tv : ∀ a i, wLv a i = true → ¬ (11 ≤ a ∧ a ≤ 17) → τ6 a i = τ a i := fun a i z z2 => tC a i (Or.inl z) z2
  refine ⟨τ6, a1, ?_⟩
  obtain ⟨-, -, -, -, -, h6', h7', h8', -⟩ := id hW
  refine wR_tx hW hI hD hF (fun a i z => sC a i (by omega)) (fun a i z => ?_) a2 ?_ ?_ ?_ ?_ ?_ ?_ ?_ ?_
  · by_cases q : a = 0
    · subst q
      rcases z with ⟨-, z⟩ | z
      · rcases z with rfl | rfl | rfl | rfl | rfl | rfl | rfl | rfl
        · exact tC 0 5 (by omega) (by omega)
        · exact tv 0 6 rfl (by omega)
        · exact tv 0 7 rfl (by omega)
        · exact tv 0 8 rfl (by omega)
        · exact tv 0 45 rfl (by omega)
        · exact tv 0 49 rfl (by omega)
        · exact tv 0 53 rfl (by omega)
        · exact tC 0 58 (by omega) (by omega)
      · omega
    · have y1 : qL a i = false := by
        simp only [qL, qC, qS, Bool.or_eq_false_iff, Bool.and_eq_false_iff, beq_eq_false_iff_ne, decide_eq_false_iff_not]
        omega
      rw [a3 a i (by omega) (by omega) (by omega), wx_ur, if_neg (by omega), fτ a i y1]
      exact ht a i (by omega)
  · exact wDk_fr (fun a q1 q2 => sF a (by omega)) (tv 0 37 rfl (by omega)) (fun i hi => tv 19 i (by simp [wLv]; omega) (by omega)) h6'
  · exact wLn_fr (fun a q1 q2 => sF a (by omega)) (tv 0 39 rfl (by omega)) (fun i hi => tv 20 i (by simp [wLv]; omega) (by omega)) h7'
  · exact wKn_fr (fun a q1 q2 => sF a (by omega)) (tv 0 41 rfl (by omega)) (fun i hi => tv 21 i (by simp [wLv]; omega) (by omega)) h8'
  · exact wP_fr ⟨hW.1.1, hW.1.2.1, hW.1.2.2.1⟩ (sC _ _ (by omega)) (sC _ _ (by omega)) (fun a q1 q2 => sF a (by omega)) (tC 0 3 (by omega) (by omega)) (fun i _ => tC 2 i (by omega) (by omega)) (fun i hi => tv 4 i (by simp [wLv]; omega) (by omega)) (fun i hi => tv 5 i (by simp [wLv]; omega) (by omega)) (fun i hi => tv 6 i (by simp [wLv]; omega) (by omega)) (fun i hi => tv 7 i (by simp [wLv]; omega) (by omega)) hP
  · rw [wcK_un (by omega), fσ 260 2 rfl]; exact hc2
  · rw [a3 0 15 (by omega) (by omega) (by omega), wx_uk, pk_us]
  · rw [wcK_un (by omega), fσ 260 8 rfl, hc8, a3 0 35 (by omega) (by omega) (by omega), wx_uk, pk_un (by omega), fτ 0 35 rfl, t35]
  · rw [wcK_un (by omega), fσ 260 9 rfl, hc9, a3 0 36 (by omega) (by omega) (by omega), wx_uk, pk_un (by omega), fτ 0 36 rfl, t36]
end TX
set_option maxHeartbeats 1000000 in
theorem wShL_274 : wShL 16 274 := by unfold wShL; decide
set_option maxHeartbeats 1000000 in
theorem wShL_34 : wShL 16 34 := by unfold wShL; decide
set_option maxHeartbeats 1000000 in
theorem wShL_39 : wShL 16 39 := by unfold wShL; decide
set_option maxHeartbeats 1000000 in
theorem wShL_44 : wShL 16 44 := by unfold wShL; decide
section TY
variable {σ τ σc τ3 : wg_M} {nw nj nc m b : Nat} {σ' τ' τ6 : wg_M}
set_option maxHeartbeats 1000000 in
/-- another text is told: rows at b are copied -/
theorem wl_txO (hW : wRW nw nj nc σ 0 τ) (hI : wIm σ τ) (hD : wRd σ τ) (hF : wFl σ τ) (hb : b = 34 ∨ b = 39 ∨ b = 44) {σf : wg_M} (hsf : ∀ a i, ¬ (a = 258 ∧ i = 2) → σf a i = wcL 16 274 b σ' a i) (hc : ∀ a i, (a < 260 ∨ 279 ≤ a) → σc a i = σ a i) (hc2 : σc 260 2 = nI 0) (hc8 : σc 260 8 = nI 0) (hc9 : σc 260 9 = -nI 1) (ht : ∀ a i, ¬ (a = 0 ∧ (i = 0 ∨ (16 ≤ i ∧ i ≤ 19) ∨ (28 ≤ i ∧ i ≤ 30) ∨ i = 35 ∨ i = 36)) → τ3 a i = τ a i) (t35 : τ3 0 35 = nI 0) (t36 : τ3 0 36 = -nI 1) (fσ : wFx pN σc σ') (fτ : wFx qN τ3 τ') (e15 : τ6 0 15 = nI 0) (h6 : ∀ a i, ¬ (a = 0 ∧ (i = 15 ∨ i = 3 ∨ i = 37 ∨ i = 39 ∨ i = 41)) → ¬ (a = 19 ∧ i < 48) → ¬ (a = 20 ∧ i < 64) → ¬ (a = 21 ∧ i < 8) → τ6 a i = τ' a i) (hd : wDk nj nc σf 0 τ6) (hl : wLn nw nj σf 0 τ6) (hk : wKn σf 0 τ6) (hP : wP nw nj nc σf τ6) : wR σf τ6 := by
  have sC : ∀ a i, (a < 34 ∨ (49 ≤ a ∧ a < 258) ∨ 279 ≤ a) → σf a i = σ a i := fun a i z => by
    rw [hsf a i (by omega), wcL_un (by omega), fσ a i (pN_n a i (by omega))]; exact hc a i (by omega)
  have sF : ∀ a, (a < 34 ∨ (49 ≤ a ∧ a < 258) ∨ 279 ≤ a) → σf a = σ a := fun a z => funext fun i => sC a i z
  have tC : ∀ a i, (wLv a i = true ∨ a = 2 ∨ a = 33 ∨ a = 10 ∨ (a = 0 ∧ (i = 3 ∨ i = 5 ∨ i = 58))) → ¬ (a = 0 ∧ (i = 15 ∨ i = 3 ∨ i = 37 ∨ i = 39 ∨ i = 41)) → ¬ (19 ≤ a ∧ a ≤ 21) → τ6 a i = τ a i := fun a i z z1 z2 => by
    obtain ⟨-, y2, -⟩ := qL_n a i z
    rw [h6 a i z1 (by omega) (by omega) (by omega), fτ a i (qN_n a i z)]
    exact ht a i y2
  refine wR_tx hW hI hD hF (fun a i z => sC a i (by omega)) (fun a i z => ?_) ?_ hd hl hk hP ?_ e15 ?_ ?_
  · by_cases q : a = 0
    · subst q
      rcases z with ⟨-, z⟩ | z
      · rcases z with rfl | rfl | rfl | rfl | rfl | rfl | rfl | rfl
        · exact tC 0 5 (by omega) (by omega) (by omega)
        · exact tC 0 6 (Or.inl rfl) (by omega) (by omega)
        · exact tC 0 7 (Or.inl rfl) (by omega) (by omega)
        · exact tC 0 8 (Or.inl rfl) (by omega) (by omega)
        · exact tC 0 45 (Or.inl rfl) (by omega) (by omega)
        · exact tC 0 49 (Or.inl rfl) (by omega) (by omega)
        · exact tC 0 53 (Or.inl rfl) (by omega) (by omega)
        · exact tC 0 58 (by omega) (by omega) (by omega)
      · omega
    · have y1 : qN a i = false := by
        simp only [qN, qS, Bool.or_eq_false_iff, Bool.and_eq_false_iff, beq_eq_false_iff_ne, decide_eq_false_iff_not]
        omega
      rw [h6 a i (by omega) (by omega) (by omega) (by omega), fτ a i y1]
      exact ht a i (by omega)
  · exact wLw_fr (fun a q1 q2 => sF a (by omega)) (fun a i z q => tC a i (Or.inl z) (by omega) (by omega)) hW.2.2.2.2.1
  · rw [hsf 260 2 (by omega), wcL_un (by omega), fσ 260 2 rfl]; exact hc2
  · rw [hsf 260 8 (by omega), wcL_un (by omega), fσ 260 8 rfl, hc8, h6 0 35 (by omega) (by omega) (by omega) (by omega), fτ 0 35 rfl, t35]
  · rw [hsf 260 9 (by omega), wcL_un (by omega), fσ 260 9 rfl, hc9, h6 0 36 (by omega) (by omega) (by omega) (by omega), fτ 0 36 rfl, t36]
end TY

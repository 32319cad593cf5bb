/-! a bench is copied -/
def wShp (b : Nat) : Prop := wg_r Sc b 0 = b + 1 ∧ wg_r Sc b 1 = b + 10 ∧ wg_r Sc b 2 = b + 16 ∧ wg_r Sc b 3 = b + 17 ∧ wg_r Sc b 4 = b + 18 ∧ wg_r Sc b 5 = b + 19 ∧ wg_r Sc (b + 1) 0 = b + 2 ∧ wg_r Sc (b + 1) 1 = b + 3 ∧ wg_r Sc (b + 1) 2 = b + 4 ∧ wg_r Sc (b + 1) 3 = b + 5 ∧ wg_r Sc (b + 1) 4 = b + 6 ∧ wg_r Sc (b + 1) 5 = b + 7 ∧ wg_r Sc (b + 1) 6 = b + 8 ∧ wg_r Sc (b + 1) 7 = b + 9 ∧ wg_r Sc (b + 10) 0 = b + 11 ∧ wg_r Sc (b + 10) 1 = b + 12 ∧ wg_r Sc (b + 10) 2 = b + 13 ∧ wg_r Sc (b + 10) 3 = b + 14 ∧ wg_r Sc (b + 10) 4 = b + 15 ∧ wg_n Sc (b + 2) = 8 ∧ wg_n Sc (b + 3) = 8 ∧ wg_n Sc (b + 4) = 8 ∧ wg_n Sc (b + 5) = 8 ∧ wg_n Sc (b + 6) = 8 ∧ wg_n Sc (b + 7) = 64 ∧ wg_n Sc (b + 8) = 64 ∧ wg_n Sc (b + 9) = 64 ∧ wg_n Sc (b + 11) = 10 ∧ wg_n Sc (b + 12) = 10 ∧ wg_n Sc (b + 13) = 10 ∧ wg_n Sc (b + 14) = 10 ∧ wg_n Sc (b + 15) = 10 ∧ wg_n Sc (b + 16) = 14 ∧ wg_n Sc (b + 17) = 14 ∧ wg_n Sc (b + 18) = 14 ∧ wg_n Sc (b + 19) = 14
set_option maxHeartbeats 1000000 in
theorem wShp_1 : wShp 1 := by unfold wShp; decide
set_option maxHeartbeats 1000000 in
theorem wShp_60 : wShp 60 := by unfold wShp; decide
set_option maxHeartbeats 1000000 in
theorem wShp_118 : wShp 118 := by unfold wShp; decide
set_option maxHeartbeats 1000000 in
theorem wShp_138 : wShp 138 := by unfold wShp; decide
set_option maxHeartbeats 1000000 in
theorem wShp_158 : wShp 158 := by unfold wShp; decide
set_option maxHeartbeats 1000000 in
theorem wShp_178 : wShp 178 := by unfold wShp; decide
set_option maxHeartbeats 1000000 in
theorem wShp_198 : wShp 198 := by unfold wShp; decide
set_option maxHeartbeats 1000000 in
theorem wShp_218 : wShp 218 := by unfold wShp; decide
set_option maxHeartbeats 1000000 in
theorem wShp_238 : wShp 238 := by unfold wShp; decide
set_option maxHeartbeats 1000000 in
theorem wShp_k (k : Nat) (h : k < 6) : wShp (138 + 20 * k) := by
  rcases (show k = 0 ∨ k = 1 ∨ k = 2 ∨ k = 3 ∨ k = 4 ∨ k = 5 by omega) with rfl | rfl | rfl | rfl | rfl | rfl
  · exact wShp_138
  · exact wShp_158
  · exact wShp_178
  · exact wShp_198
  · exact wShp_218
  · exact wShp_238
def wcp (n a b : Nat) (σ : wg_M) : wg_M := fun q => if q = b then va_cpy (σ a) (σ b) 0 0 n else σ q
set_option maxHeartbeats 1000000 in
theorem wcp_un {n a b q : Nat} {σ : wg_M} (h : q ≠ b) : wcp n a b σ q = σ q := if_neg h
set_option maxHeartbeats 1000000 in
theorem wcp_in {n a b i : Nat} {σ : wg_M} (h : i < n) : wcp n a b σ b i = σ a i := by
  unfold wcp
  rw [if_pos rfl, pk_cpy_in (Nat.zero_le _) (by omega)]
  simp
set_option maxHeartbeats 1000000 in
theorem wl_row {a b n : Nat} {σ : wg_M} (ha : wg_n Sc a = n) (hb : wg_n Sc b = n) (hn : n < 1000) : f_X11_copyRow a b σ = some (nI 0, wcp n a b σ) := by
  have hz : (nI 0).toInt = 0 := by decide
  have hz2 : (nI 0).toNatClampNeg = 0 := by decide
  have hn1 : (nI n).toInt = n := nI_toInt (by omega)
  have hn2 : (nI n).toNatClampNeg = n := nI_clamp (by omega)
  have hm : f_J9_min_7cf53 (nI n) (nI n) σ = some (nI n, σ) := by
    rw [wl_min]; split <;> rfl
  unfold f_X11_copyRow
  rw [ha, hb]
  show wg_bd (f_J9_min_7cf53 (nI n) (nI n) σ) _ = _
  rw [hm, wx_bd]
  show wg_cp Sc σ a (nI 0) b (nI 0) (nI n) _ = _
  unfold wg_cp
  rw [hz, hz2, hn1, hn2, if_pos (by rw [ha, hb]; omega)]
  rfl
def wcU (s b c k : Nat) (m : wg_M) : wg_M := wg_u m (b + c) k (m (s + c) k)
def wcW (s b : Nat) (σ : wg_M) : wg_M := wcU s b 1 8 (wcp 64 (s + 9) (b + 9) (wcp 64 (s + 8) (b + 8) (wcp 64 (s + 7) (b + 7) (wcp 8 (s + 6) (b + 6) (wcp 8 (s + 5) (b + 5) (wcp 8 (s + 4) (b + 4) (wcp 8 (s + 3) (b + 3) (wcp 8 (s + 2) (b + 2) σ))))))))
def wcJ (s b : Nat) (σ : wg_M) : wg_M := wcU s b 10 5 (wcp 10 (s + 15) (b + 15) (wcp 10 (s + 14) (b + 14) (wcp 10 (s + 13) (b + 13) (wcp 10 (s + 12) (b + 12) (wcp 10 (s + 11) (b + 11) σ)))))
def wcR (s b : Nat) (σ : wg_M) : wg_M := (wcp 14 (s + 19) (b + 19) (wcp 14 (s + 18) (b + 18) (wcp 14 (s + 17) (b + 17) (wcp 14 (s + 16) (b + 16) σ))))
def wcB (s b : Nat) (σ : wg_M) : wg_M := wcU s b 0 9 (wcU s b 0 8 (wcU s b 0 7 (wcU s b 0 6 (wcR s b (wcJ s b (wcW s b σ))))))
set_option maxHeartbeats 1000000 in
theorem wl_copyW {s b : Nat} {σ : wg_M} (hs : wShp s) (hb : wShp b) : f_X9_copyFrom (b + 1) (s + 1) σ = some (nI 0, wcW s b σ) := by
  obtain ⟨c0, c1, c2, c3, c4, c5, c6, c7, c8, c9, c10, c11, c12, c13, c14, c15, c16, c17, c18, c19, c20, c21, c22, c23, c24, c25, c26, c27, c28, c29, c30, c31, c32, c33, c34, c35⟩ := hs
  obtain ⟨d0, d1, d2, d3, d4, d5, d6, d7, d8, d9, d10, d11, d12, d13, d14, d15, d16, d17, d18, d19, d20, d21, d22, d23, d24, d25, d26, d27, d28, d29, d30, d31, d32, d33, d34, d35⟩ := hb
  have r2 : ∀ t : wg_M, f_X11_copyRow (s + 2) (b + 2) t = some (nI 0, wcp 8 (s + 2) (b + 2) t) := fun t => wl_row c19 d19 (by omega)
  have r3 : ∀ t : wg_M, f_X11_copyRow (s + 3) (b + 3) t = some (nI 0, wcp 8 (s + 3) (b + 3) t) := fun t => wl_row c20 d20 (by omega)
  have r4 : ∀ t : wg_M, f_X11_copyRow (s + 4) (b + 4) t = some (nI 0, wcp 8 (s + 4) (b + 4) t) := fun t => wl_row c21 d21 (by omega)
  have r5 : ∀ t : wg_M, f_X11_copyRow (s + 5) (b + 5) t = some (nI 0, wcp 8 (s + 5) (b + 5) t) := fun t => wl_row c22 d22 (by omega)
  have r6 : ∀ t : wg_M, f_X11_copyRow (s + 6) (b + 6) t = some (nI 0, wcp 8 (s + 6) (b + 6) t) := fun t => wl_row c23 d23 (by omega)
  have r7 : ∀ t : wg_M, f_X11_copyRow (s + 7) (b + 7) t = some (nI 0, wcp 64 (s + 7) (b + 7) t) := fun t => wl_row c24 d24 (by omega)
  have r8 : ∀ t : wg_M, f_X11_copyRow (s + 8) (b + 8) t = some (nI 0, wcp 64 (s + 8) (b + 8) t) := fun t => wl_row c25 d25 (by omega)
  have r9 : ∀ t : wg_M, f_X11_copyRow (s + 9) (b + 9) t = some (nI 0, wcp 64 (s + 9) (b + 9) t) := fun t => wl_row c26 d26 (by omega)
  unfold f_X9_copyFrom
  rw [c6, d6, c7, d7, c8, d8, c9, d9, c10, d10, c11, d11, c12, d12, c13, d13]
  rw [r2, wx_bd]
  rw [r3, wx_bd]
  rw [r4, wx_bd]
  rw [r5, wx_bd]
  rw [r6, wx_bd]
  rw [r7, wx_bd]
  rw [r8, wx_bd]
  rw [r9, wx_bd]
  rw [wx_st]
  rfl
set_option maxHeartbeats 1000000 in
theorem wl_copyJ {s b : Nat} {σ : wg_M} (hs : wShp s) (hb : wShp b) : f_X2_copyFrom (b + 10) (s + 10) σ = some (nI 0, wcJ s b σ) := by
  obtain ⟨c0, c1, c2, c3, c4, c5, c6, c7, c8, c9, c10, c11, c12, c13, c14, c15, c16, c17, c18, c19, c20, c21, c22, c23, c24, c25, c26, c27, c28, c29, c30, c31, c32, c33, c34, c35⟩ := hs
  obtain ⟨d0, d1, d2, d3, d4, d5, d6, d7, d8, d9, d10, d11, d12, d13, d14, d15, d16, d17, d18, d19, d20, d21, d22, d23, d24, d25, d26, d27, d28, d29, d30, d31, d32, d33, d34, d35⟩ := hb
  have r11 : ∀ t : wg_M, f_X11_copyRow (s + 11) (b + 11) t = some (nI 0, wcp 10 (s + 11) (b + 11) t) := fun t => wl_row c27 d27 (by omega)
  have r12 : ∀ t : wg_M, f_X11_copyRow (s + 12) (b + 12) t = some (nI 0, wcp 10 (s + 12) (b + 12) t) := fun t => wl_row c28 d28 (by omega)
  have r13 : ∀ t : wg_M, f_X11_copyRow (s + 13) (b + 13) t = some (nI 0, wcp 10 (s + 13) (b + 13) t) := fun t => wl_row c29 d29 (by omega)
  have r14 : ∀ t : wg_M, f_X11_copyRow (s + 14) (b + 14) t = some (nI 0, wcp 10 (s + 14) (b + 14) t) := fun t => wl_row c30 d30 (by omega)
  have r15 : ∀ t : wg_M, f_X11_copyRow (s + 15) (b + 15) t = some (nI 0, wcp 10 (s + 15) (b + 15) t) := fun t => wl_row c31 d31 (by omega)
  unfold f_X2_copyFrom
  rw [c14, d14, c15, d15, c16, d16, c17, d17, c18, d18]
  rw [r11, wx_bd]
  rw [r12, wx_bd]
  rw [r13, wx_bd]
  rw [r14, wx_bd]
  rw [r15, wx_bd]
  rw [wx_st]
  rfl
set_option maxHeartbeats 1000000 in
theorem wl_copyB {s b : Nat} {σ : wg_M} (hs : wShp s) (hb : wShp b) (hd : s + 20 ≤ b ∨ b + 20 ≤ s) : f_X0_copyFrom b s σ = some (nI 0, wcB s b σ) := by
  have rW : ∀ t : wg_M, f_X9_copyFrom (b + 1) (s + 1) t = some (nI 0, wcW s b t) := fun t => wl_copyW hs hb
  have rJ : ∀ t : wg_M, f_X2_copyFrom (b + 10) (s + 10) t = some (nI 0, wcJ s b t) := fun t => wl_copyJ hs hb
  obtain ⟨c0, c1, c2, c3, c4, c5, c6, c7, c8, c9, c10, c11, c12, c13, c14, c15, c16, c17, c18, c19, c20, c21, c22, c23, c24, c25, c26, c27, c28, c29, c30, c31, c32, c33, c34, c35⟩ := hs
  obtain ⟨d0, d1, d2, d3, d4, d5, d6, d7, d8, d9, d10, d11, d12, d13, d14, d15, d16, d17, d18, d19, d20, d21, d22, d23, d24, d25, d26, d27, d28, d29, d30, d31, d32, d33, d34, d35⟩ := hb
  have r16 : ∀ t : wg_M, f_X11_copyRow (s + 16) (b + 16) t = some (nI 0, wcp 14 (s + 16) (b + 16) t) := fun t => wl_row c32 d32 (by omega)
  have r17 : ∀ t : wg_M, f_X11_copyRow (s + 17) (b + 17) t = some (nI 0, wcp 14 (s + 17) (b + 17) t) := fun t => wl_row c33 d33 (by omega)
  have r18 : ∀ t : wg_M, f_X11_copyRow (s + 18) (b + 18) t = some (nI 0, wcp 14 (s + 18) (b + 18) t) := fun t => wl_row c34 d34 (by omega)
  have r19 : ∀ t : wg_M, f_X11_copyRow (s + 19) (b + 19) t = some (nI 0, wcp 14 (s + 19) (b + 19) t) := fun t => wl_row c35 d35 (by omega)
  unfold f_X0_copyFrom
  rw [c0, d0, c1, d1, c2, d2, c3, d3, c4, d4, c5, d5]
  rw [rW, wx_bd]
  rw [rJ, wx_bd]
  rw [r16, wx_bd]
  rw [r17, wx_bd]
  rw [r18, wx_bd]
  rw [r19, wx_bd]
  rw [wx_st]
  rw [wx_st]
  rw [wx_st]
  rw [wx_st]
  rfl
set_option maxHeartbeats 1000000 in
theorem wcU_un {s b c k q : Nat} {m : wg_M} (h : q ≠ b + c) : wcU s b c k m q = m q := wx_un h
set_option maxHeartbeats 1000000 in
theorem wcU_at {s b c k : Nat} {m : wg_M} : wcU s b c k m (b + c) k = m (s + c) k := by unfold wcU; rw [wx_uk, pk_us]
set_option maxHeartbeats 1000000 in
theorem wcU_ne {s b c k i : Nat} {m : wg_M} (h : i ≠ k) : wcU s b c k m (b + c) i = m (b + c) i := by unfold wcU; rw [wx_uk, pk_un h]
set_option maxHeartbeats 1000000 in
theorem wcB_un {s b q : Nat} {σ : wg_M} (h : q < b ∨ b + 20 ≤ q) : wcB s b σ q = σ q := by
  unfold wcB wcR wcJ wcW
  simp -implicitDefEqProofs (disch := omega) only [wcp_un, wcU_un]
set_option maxHeartbeats 1000000 in
theorem wcB_B {nw nj nc s b : Nat} {σ τ : wg_M} {r : Nat → Int32} (hn : nw ≤ 8 ∧ nj ≤ 10 ∧ nc ≤ 14) (hd : s + 20 ≤ b ∨ b + 20 ≤ s) (h : wB nw nj nc σ s r τ) : wB nw nj nc (wcB s b σ) b r τ := by
  obtain ⟨n1, n2, n3⟩ := hn
  obtain ⟨a1, a2, a3, a4, a5⟩ := h
  have sc : ∀ i, 6 ≤ i → i < 10 → wcB s b σ b i = σ s i := by
    intro i h1 h2
    show wcB s b σ (b + 0) i = σ (s + 0) i
    unfold wcB wcR wcJ wcW
    rcases (show i = 6 ∨ i = 7 ∨ i = 8 ∨ i = 9 by omega) with rfl | rfl | rfl | rfl <;> simp -implicitDefEqProofs (disch := omega) only [wcp_un, wcU_un, wcU_at, wcU_ne]
  have s1 : wcB s b σ (b + 1) 8 = σ (s + 1) 8 := by
    unfold wcB wcR wcJ wcW
    simp -implicitDefEqProofs (disch := omega) only [wcp_un, wcU_un, wcU_at]
  have s10 : wcB s b σ (b + 10) 5 = σ (s + 10) 5 := by
    unfold wcB wcR wcJ wcW
    simp -implicitDefEqProofs (disch := omega) only [wcp_un, wcU_un, wcU_at]
  have ra : ∀ k i, 2 ≤ k → k < 7 → i < 8 → wcB s b σ (b + k) i = σ (s + k) i := by
    intro k i h1 h2 h3
    unfold wcB wcR wcJ wcW
    rcases (show k = 2 ∨ k = 3 ∨ k = 4 ∨ k = 5 ∨ k = 6 by omega) with rfl | rfl | rfl | rfl | rfl <;> simp -implicitDefEqProofs (disch := omega) only [wcp_un, wcU_un, wcp_in]
  have rb : ∀ k i, 7 ≤ k → k < 10 → i < 64 → wcB s b σ (b + k) i = σ (s + k) i := by
    intro k i h1 h2 h3
    unfold wcB wcR wcJ wcW
    rcases (show k = 7 ∨ k = 8 ∨ k = 9 by omega) with rfl | rfl | rfl <;> simp -implicitDefEqProofs (disch := omega) only [wcp_un, wcU_un, wcp_in]
  have rc : ∀ k i, 11 ≤ k → k < 16 → i < 10 → wcB s b σ (b + k) i = σ (s + k) i := by
    intro k i h1 h2 h3
    unfold wcB wcR wcJ wcW
    rcases (show k = 11 ∨ k = 12 ∨ k = 13 ∨ k = 14 ∨ k = 15 by omega) with rfl | rfl | rfl | rfl | rfl <;> simp -implicitDefEqProofs (disch := omega) only [wcp_un, wcU_un, wcp_in]
  have rd : ∀ k i, 16 ≤ k → k < 20 → i < 14 → wcB s b σ (b + k) i = σ (s + k) i := by
    intro k i h1 h2 h3
    unfold wcB wcR wcJ wcW
    rcases (show k = 16 ∨ k = 17 ∨ k = 18 ∨ k = 19 by omega) with rfl | rfl | rfl | rfl <;> simp -implicitDefEqProofs (disch := omega) only [wcp_un, wcU_un, wcp_in]
  refine ⟨?_, fun j hj => ?_, fun w hw => ?_, fun c hc => ?_, a5⟩
  · simp -implicitDefEqProofs (disch := omega) only [sc, s1, s10]; exact a1
  · have := a2 j hj
    unfold wJ at this ⊢
    simp -implicitDefEqProofs (disch := omega) only [rc]; exact this
  · obtain ⟨c1, c2, c3, c4, c5, k, c6, c7, c8⟩ := a3 w hw
    refine ⟨?_, ?_, ?_, ?_, ?_, k, c6, c7, fun i hi => ?_⟩
    · rw [ra 2 w (by omega) (by omega) (by omega)]; exact c1
    · rw [ra 3 w (by omega) (by omega) (by omega)]; exact c2
    · rw [ra 4 w (by omega) (by omega) (by omega)]; exact c3
    · rw [ra 5 w (by omega) (by omega) (by omega)]; exact c4
    · rw [ra 6 w (by omega) (by omega) (by omega)]; exact c5
    · have := c8 i hi
      unfold wU at this ⊢
      rw [rb 7 _ (by omega) (by omega) (by omega), rb 8 _ (by omega) (by omega) (by omega), rb 9 _ (by omega) (by omega) (by omega)]
      exact this
  · have := a4 c hc
    unfold wC at this ⊢
    simp -implicitDefEqProofs (disch := omega) only [rd]; exact this

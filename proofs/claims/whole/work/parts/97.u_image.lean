/-! THE IMAGE: a world is copied, the class -/
def wShL (n b : Nat) : Prop := wg_r Sc b 0 = b + 1 ∧ wg_r Sc b 1 = b + 2 ∧ wg_r Sc b 2 = b + 3 ∧ wg_r Sc b 3 = b + 4 ∧ wg_n Sc (b + 1) = n ∧ wg_n Sc (b + 2) = n ∧ wg_n Sc (b + 3) = n ∧ wg_n Sc (b + 4) = n
def wShK (b : Nat) : Prop := wg_r Sc b 0 = b + 1 ∧ wg_r Sc b 1 = b + 2 ∧ wg_r Sc b 3 = b + 3 ∧ wg_r Sc b 4 = b + 4 ∧ wg_r Sc b 5 = b + 5 ∧ wg_n Sc (b + 1) = 400 ∧ wg_n Sc (b + 2) = 400 ∧ wg_n Sc (b + 3) = 16 ∧ wg_n Sc (b + 4) = 16 ∧ wg_n Sc (b + 5) = 16
def wShD (b : Nat) : Prop := wg_r Sc b 0 = b + 1 ∧ wg_r Sc b 1 = b + 2 ∧ wg_r Sc b 2 = b + 3 ∧ wg_r Sc b 4 = b + 4 ∧ wg_r Sc b 5 = b + 5 ∧ wg_r Sc b 7 = b + 6 ∧ wg_r Sc b 8 = b + 7 ∧ wg_r Sc b 9 = b + 8 ∧ wg_n Sc (b + 1) = 8 ∧ wg_n Sc (b + 2) = 8 ∧ wg_n Sc (b + 3) = 8 ∧ wg_n Sc (b + 4) = 16 ∧ wg_n Sc (b + 5) = 16 ∧ wg_n Sc (b + 6) = 20 ∧ wg_n Sc (b + 7) = 7 ∧ wg_n Sc (b + 8) = 7
def wShX (b : Nat) : Prop := wg_r Sc b 0 = b + 1 ∧ wg_r Sc b 1 = b + 21 ∧ wg_r Sc b 2 = b + 26 ∧ wg_r Sc b 3 = b + 34 ∧ wg_r Sc b 4 = b + 39 ∧ wg_r Sc b 5 = b + 44 ∧ wg_r Sc b 6 = b + 49 ∧ wShp (b + 1) ∧ wShL 150 (b + 21) ∧ wShK (b + 26) ∧ wShL 16 (b + 34) ∧ wShL 16 (b + 39) ∧ wShL 16 (b + 44) ∧ wShD (b + 49)
set_option maxHeartbeats 1000000 in
theorem wShX_0 : wShX 0 := ⟨by decide, by decide, by decide, by decide, by decide, by decide, by decide, wShp_1, by unfold wShL; decide, by unfold wShK; decide, by unfold wShL; decide, by unfold wShL; decide, by unfold wShL; decide, by unfold wShD; decide⟩
set_option maxHeartbeats 1000000 in
theorem wShX_59 : wShX 59 := ⟨by decide, by decide, by decide, by decide, by decide, by decide, by decide, wShp_60, by unfold wShL; decide, by unfold wShK; decide, by unfold wShL; decide, by unfold wShL; decide, by unfold wShL; decide, by unfold wShD; decide⟩
def wcL (n s b : Nat) (σ : wg_M) : wg_M := wcU s b 0 4 (wcp n (s + 4) (b + 4) (wcp n (s + 3) (b + 3) (wcp n (s + 2) (b + 2) (wcp n (s + 1) (b + 1) σ))))
def wcK (s b : Nat) (σ : wg_M) : wg_M := wcU s b 0 6 (wcp 16 (s + 5) (b + 5) (wcp 16 (s + 4) (b + 4) (wcp 16 (s + 3) (b + 3) (wcU s b 0 2 (wcp 400 (s + 2) (b + 2) (wcp 400 (s + 1) (b + 1) σ))))))
def wcD (s b : Nat) (σ : wg_M) : wg_M := wcU s b 0 10 (wcp 7 (s + 8) (b + 8) (wcp 7 (s + 7) (b + 7) (wcp 20 (s + 6) (b + 6) (wcU s b 0 6 (wcp 16 (s + 5) (b + 5) (wcp 16 (s + 4) (b + 4) (wcU s b 0 3 (wcp 8 (s + 3) (b + 3) (wcp 8 (s + 2) (b + 2) (wcp 8 (s + 1) (b + 1) σ))))))))))
def wcX (s b : Nat) (σ : wg_M) : wg_M := wcD (s + 49) (b + 49) (wcL 16 (s + 44) (b + 44) (wcL 16 (s + 39) (b + 39) (wcL 16 (s + 34) (b + 34) (wcK (s + 26) (b + 26) (wcL 150 (s + 21) (b + 21) (wcB (s + 1) (b + 1) σ))))))
set_option maxHeartbeats 1000000 in
theorem wl_copyL {n s b : Nat} {σ : wg_M} (hn : n < 1000) (hs : wShL n s) (hb : wShL n b) : f_X4_copyFrom b s σ = some (nI 0, wcL n s b σ) := by
  obtain ⟨c0, c1, c2, c3, c4, c5, c6, c7⟩ := hs
  obtain ⟨d0, d1, d2, d3, d4, d5, d6, d7⟩ := hb
  have r1 : ∀ t : wg_M, f_X11_copyRow (s + 1) (b + 1) t = some (nI 0, wcp n (s + 1) (b + 1) t) := fun t => wl_row c4 d4 (by omega)
  have r2 : ∀ t : wg_M, f_X11_copyRow (s + 2) (b + 2) t = some (nI 0, wcp n (s + 2) (b + 2) t) := fun t => wl_row c5 d5 (by omega)
  have r3 : ∀ t : wg_M, f_X11_copyRow (s + 3) (b + 3) t = some (nI 0, wcp n (s + 3) (b + 3) t) := fun t => wl_row c6 d6 (by omega)
  have r4 : ∀ t : wg_M, f_X11_copyRow (s + 4) (b + 4) t = some (nI 0, wcp n (s + 4) (b + 4) t) := fun t => wl_row c7 d7 (by omega)
  unfold f_X4_copyFrom
  rw [c0, d0, c1, d1, c2, d2, c3, d3]
  rw [r1, wx_bd]
  rw [r2, wx_bd]
  rw [r3, wx_bd]
  rw [r4, wx_bd]
  rw [wx_st]
  rfl
set_option maxHeartbeats 1000000 in
theorem wl_copyK {s b : Nat} {σ : wg_M} (hs : wShK s) (hb : wShK b) : f_X3_copyFrom b s σ = some (nI 0, wcK s b σ) := by
  obtain ⟨c0, c1, c2, c3, c4, c5, c6, c7, c8, c9⟩ := hs
  obtain ⟨d0, d1, d2, d3, d4, d5, d6, d7, d8, d9⟩ := hb
  have r1 : ∀ t : wg_M, f_X11_copyRow (s + 1) (b + 1) t = some (nI 0, wcp 400 (s + 1) (b + 1) t) := fun t => wl_row c5 d5 (by omega)
  have r2 : ∀ t : wg_M, f_X11_copyRow (s + 2) (b + 2) t = some (nI 0, wcp 400 (s + 2) (b + 2) t) := fun t => wl_row c6 d6 (by omega)
  have r3 : ∀ t : wg_M, f_X11_copyRow (s + 3) (b + 3) t = some (nI 0, wcp 16 (s + 3) (b + 3) t) := fun t => wl_row c7 d7 (by omega)
  have r4 : ∀ t : wg_M, f_X11_copyRow (s + 4) (b + 4) t = some (nI 0, wcp 16 (s + 4) (b + 4) t) := fun t => wl_row c8 d8 (by omega)
  have r5 : ∀ t : wg_M, f_X11_copyRow (s + 5) (b + 5) t = some (nI 0, wcp 16 (s + 5) (b + 5) t) := fun t => wl_row c9 d9 (by omega)
  unfold f_X3_copyFrom
  rw [c0, d0, c1, d1, c2, d2, c3, d3, c4, d4]
  rw [r1, wx_bd]
  rw [r2, wx_bd]
  rw [wx_st]
  rw [r3, wx_bd]
  rw [r4, wx_bd]
  rw [r5, wx_bd]
  rw [wx_st]
  rfl
set_option maxHeartbeats 1000000 in
theorem wl_copyD {s b : Nat} {σ : wg_M} (hs : wShD s) (hb : wShD b) : f_X8_copyFrom b s σ = some (nI 0, wcD s b σ) := by
  obtain ⟨c0, c1, c2, c3, c4, c5, c6, c7, c8, c9, c10, c11, c12, c13, c14, c15⟩ := hs
  obtain ⟨d0, d1, d2, d3, d4, d5, d6, d7, d8, d9, d10, d11, d12, d13, d14, d15⟩ := hb
  have r1 : ∀ t : wg_M, f_X11_copyRow (s + 1) (b + 1) t = some (nI 0, wcp 8 (s + 1) (b + 1) t) := fun t => wl_row c8 d8 (by omega)
  have r2 : ∀ t : wg_M, f_X11_copyRow (s + 2) (b + 2) t = some (nI 0, wcp 8 (s + 2) (b + 2) t) := fun t => wl_row c9 d9 (by omega)
  have r3 : ∀ t : wg_M, f_X11_copyRow (s + 3) (b + 3) t = some (nI 0, wcp 8 (s + 3) (b + 3) t) := fun t => wl_row c10 d10 (by omega)
  have r4 : ∀ t : wg_M, f_X11_copyRow (s + 4) (b + 4) t = some (nI 0, wcp 16 (s + 4) (b + 4) t) := fun t => wl_row c11 d11 (by omega)
  have r5 : ∀ t : wg_M, f_X11_copyRow (s + 5) (b + 5) t = some (nI 0, wcp 16 (s + 5) (b + 5) t) := fun t => wl_row c12 d12 (by omega)
  have r6 : ∀ t : wg_M, f_X11_copyRow (s + 6) (b + 6) t = some (nI 0, wcp 20 (s + 6) (b + 6) t) := fun t => wl_row c13 d13 (by omega)
  have r7 : ∀ t : wg_M, f_X11_copyRow (s + 7) (b + 7) t = some (nI 0, wcp 7 (s + 7) (b + 7) t) := fun t => wl_row c14 d14 (by omega)
  have r8 : ∀ t : wg_M, f_X11_copyRow (s + 8) (b + 8) t = some (nI 0, wcp 7 (s + 8) (b + 8) t) := fun t => wl_row c15 d15 (by omega)
  unfold f_X8_copyFrom
  rw [c0, d0, c1, d1, c2, d2, c3, d3, c4, d4, c5, d5, c6, d6, c7, d7]
  rw [r1, wx_bd]
  rw [r2, wx_bd]
  rw [r3, wx_bd]
  rw [wx_st]
  rw [r4, wx_bd]
  rw [r5, wx_bd]
  rw [wx_st]
  rw [r6, wx_bd]
  rw [r7, wx_bd]
  rw [r8, wx_bd]
  rw [wx_st]
  rfl
set_option maxHeartbeats 1000000 in
theorem wl_copyX {s b : Nat} {σ : wg_M} (hs : wShX s) (hb : wShX b) (hd : s + 59 ≤ b ∨ b + 59 ≤ s) : f_X10_copyFrom b s σ = some (nI 0, wcX s b σ) := by
  obtain ⟨c0, c1, c2, c3, c4, c5, c6, c7, c8, c9, c10, c11, c12, c13⟩ := hs
  obtain ⟨d0, d1, d2, d3, d4, d5, d6, d7, d8, d9, d10, d11, d12, d13⟩ := hb
  unfold f_X10_copyFrom
  rw [c0, d0, c1, d1, c2, d2, c3, d3, c4, d4, c5, d5, c6, d6]
  rw [wl_copyB c7 d7 (by omega), wx_bd]
  rw [wl_copyL (by omega) c8 d8, wx_bd]
  rw [wl_copyK c9 d9, wx_bd]
  rw [wl_copyL (by omega) c10 d10, wx_bd]
  rw [wl_copyL (by omega) c11 d11, wx_bd]
  rw [wl_copyL (by omega) c12 d12, wx_bd]
  rw [wl_copyD c13 d13, wx_bd]
  rfl
set_option maxHeartbeats 1000000 in
theorem wcL_un {n s b q : Nat} {σ : wg_M} (h : q < b ∨ b + 5 ≤ q) : wcL n s b σ q = σ q := by
  unfold wcL
  simp -implicitDefEqProofs (disch := omega) only [wcp_un, wcU_un]
set_option maxHeartbeats 1000000 in
theorem wcK_un {s b q : Nat} {σ : wg_M} (h : q < b ∨ b + 6 ≤ q) : wcK s b σ q = σ q := by
  unfold wcK
  simp -implicitDefEqProofs (disch := omega) only [wcp_un, wcU_un]
set_option maxHeartbeats 1000000 in
theorem wcD_un {s b q : Nat} {σ : wg_M} (h : q < b ∨ b + 9 ≤ q) : wcD s b σ q = σ q := by
  unfold wcD
  simp -implicitDefEqProofs (disch := omega) only [wcp_un, wcU_un]
set_option maxHeartbeats 1000000 in
theorem wcX_un {s b q : Nat} {σ : wg_M} (h : q ≤ b ∨ b + 59 ≤ q) : wcX s b σ q = σ q := by
  unfold wcX
  simp -implicitDefEqProofs (disch := omega) only [wcD_un, wcL_un, wcK_un, wcB_un]
set_option maxHeartbeats 1000000 in
theorem wcL_r1 {n s b i : Nat} {σ : wg_M} (hd : s + 5 ≤ b ∨ b + 5 ≤ s) (hi : i < n) : wcL n s b σ (b + 1) i = σ (s + 1) i := by
  unfold wcL
  simp -implicitDefEqProofs (disch := omega) only [wcp_un, wcU_un, wcp_in]
set_option maxHeartbeats 1000000 in
theorem wcL_r2 {n s b i : Nat} {σ : wg_M} (hd : s + 5 ≤ b ∨ b + 5 ≤ s) (hi : i < n) : wcL n s b σ (b + 2) i = σ (s + 2) i := by
  unfold wcL
  simp -implicitDefEqProofs (disch := omega) only [wcp_un, wcU_un, wcp_in]
set_option maxHeartbeats 1000000 in
theorem wcL_r3 {n s b i : Nat} {σ : wg_M} (hd : s + 5 ≤ b ∨ b + 5 ≤ s) (hi : i < n) : wcL n s b σ (b + 3) i = σ (s + 3) i := by
  unfold wcL
  simp -implicitDefEqProofs (disch := omega) only [wcp_un, wcU_un, wcp_in]
set_option maxHeartbeats 1000000 in
theorem wcL_r4 {n s b i : Nat} {σ : wg_M} (hd : s + 5 ≤ b ∨ b + 5 ≤ s) (hi : i < n) : wcL n s b σ (b + 4) i = σ (s + 4) i := by
  unfold wcL
  simp -implicitDefEqProofs (disch := omega) only [wcp_un, wcU_un, wcp_in]
set_option maxHeartbeats 1000000 in
theorem wcL_c4 {n s b : Nat} {σ : wg_M} (hd : s + 5 ≤ b ∨ b + 5 ≤ s) : wcL n s b σ b 4 = σ s 4 := by
  show wcL n s b σ (b + 0) 4 = σ (s + 0) 4
  unfold wcL
  simp -implicitDefEqProofs (disch := omega) only [wcp_un, wcU_un, wcU_at, wcU_ne]
set_option maxHeartbeats 1000000 in
theorem wcK_r1 {s b i : Nat} {σ : wg_M} (hd : s + 6 ≤ b ∨ b + 6 ≤ s) (hi : i < 400) : wcK s b σ (b + 1) i = σ (s + 1) i := by
  unfold wcK
  simp -implicitDefEqProofs (disch := omega) only [wcp_un, wcU_un, wcp_in]
set_option maxHeartbeats 1000000 in
theorem wcK_r2 {s b i : Nat} {σ : wg_M} (hd : s + 6 ≤ b ∨ b + 6 ≤ s) (hi : i < 400) : wcK s b σ (b + 2) i = σ (s + 2) i := by
  unfold wcK
  simp -implicitDefEqProofs (disch := omega) only [wcp_un, wcU_un, wcp_in]
set_option maxHeartbeats 1000000 in
theorem wcK_r3 {s b i : Nat} {σ : wg_M} (hd : s + 6 ≤ b ∨ b + 6 ≤ s) (hi : i < 16) : wcK s b σ (b + 3) i = σ (s + 3) i := by
  unfold wcK
  simp -implicitDefEqProofs (disch := omega) only [wcp_un, wcU_un, wcp_in]
set_option maxHeartbeats 1000000 in
theorem wcK_r4 {s b i : Nat} {σ : wg_M} (hd : s + 6 ≤ b ∨ b + 6 ≤ s) (hi : i < 16) : wcK s b σ (b + 4) i = σ (s + 4) i := by
  unfold wcK
  simp -implicitDefEqProofs (disch := omega) only [wcp_un, wcU_un, wcp_in]
set_option maxHeartbeats 1000000 in
theorem wcK_r5 {s b i : Nat} {σ : wg_M} (hd : s + 6 ≤ b ∨ b + 6 ≤ s) (hi : i < 16) : wcK s b σ (b + 5) i = σ (s + 5) i := by
  unfold wcK
  simp -implicitDefEqProofs (disch := omega) only [wcp_un, wcU_un, wcp_in]
set_option maxHeartbeats 1000000 in
theorem wcK_c6 {s b : Nat} {σ : wg_M} (hd : s + 6 ≤ b ∨ b + 6 ≤ s) : wcK s b σ b 6 = σ s 6 := by
  show wcK s b σ (b + 0) 6 = σ (s + 0) 6
  unfold wcK
  simp -implicitDefEqProofs (disch := omega) only [wcp_un, wcU_un, wcU_at, wcU_ne]
set_option maxHeartbeats 1000000 in
theorem wcD_r1 {s b i : Nat} {σ : wg_M} (hd : s + 9 ≤ b ∨ b + 9 ≤ s) (hi : i < 8) : wcD s b σ (b + 1) i = σ (s + 1) i := by
  unfold wcD
  simp -implicitDefEqProofs (disch := omega) only [wcp_un, wcU_un, wcp_in]
set_option maxHeartbeats 1000000 in
theorem wcD_r2 {s b i : Nat} {σ : wg_M} (hd : s + 9 ≤ b ∨ b + 9 ≤ s) (hi : i < 8) : wcD s b σ (b + 2) i = σ (s + 2) i := by
  unfold wcD
  simp -implicitDefEqProofs (disch := omega) only [wcp_un, wcU_un, wcp_in]
set_option maxHeartbeats 1000000 in
theorem wcD_r3 {s b i : Nat} {σ : wg_M} (hd : s + 9 ≤ b ∨ b + 9 ≤ s) (hi : i < 8) : wcD s b σ (b + 3) i = σ (s + 3) i := by
  unfold wcD
  simp -implicitDefEqProofs (disch := omega) only [wcp_un, wcU_un, wcp_in]
set_option maxHeartbeats 1000000 in
theorem wcD_r4 {s b i : Nat} {σ : wg_M} (hd : s + 9 ≤ b ∨ b + 9 ≤ s) (hi : i < 16) : wcD s b σ (b + 4) i = σ (s + 4) i := by
  unfold wcD
  simp -implicitDefEqProofs (disch := omega) only [wcp_un, wcU_un, wcp_in]
set_option maxHeartbeats 1000000 in
theorem wcD_r5 {s b i : Nat} {σ : wg_M} (hd : s + 9 ≤ b ∨ b + 9 ≤ s) (hi : i < 16) : wcD s b σ (b + 5) i = σ (s + 5) i := by
  unfold wcD
  simp -implicitDefEqProofs (disch := omega) only [wcp_un, wcU_un, wcp_in]
set_option maxHeartbeats 1000000 in
theorem wcD_r6 {s b i : Nat} {σ : wg_M} (hd : s + 9 ≤ b ∨ b + 9 ≤ s) (hi : i < 20) : wcD s b σ (b + 6) i = σ (s + 6) i := by
  unfold wcD
  simp -implicitDefEqProofs (disch := omega) only [wcp_un, wcU_un, wcp_in]
set_option maxHeartbeats 1000000 in
theorem wcD_r7 {s b i : Nat} {σ : wg_M} (hd : s + 9 ≤ b ∨ b + 9 ≤ s) (hi : i < 7) : wcD s b σ (b + 7) i = σ (s + 7) i := by
  unfold wcD
  simp -implicitDefEqProofs (disch := omega) only [wcp_un, wcU_un, wcp_in]
set_option maxHeartbeats 1000000 in
theorem wcD_r8 {s b i : Nat} {σ : wg_M} (hd : s + 9 ≤ b ∨ b + 9 ≤ s) (hi : i < 7) : wcD s b σ (b + 8) i = σ (s + 8) i := by
  unfold wcD
  simp -implicitDefEqProofs (disch := omega) only [wcp_un, wcU_un, wcp_in]
set_option maxHeartbeats 1000000 in
theorem wcD_c3 {s b : Nat} {σ : wg_M} (hd : s + 9 ≤ b ∨ b + 9 ≤ s) : wcD s b σ b 3 = σ s 3 := by
  show wcD s b σ (b + 0) 3 = σ (s + 0) 3
  unfold wcD
  simp -implicitDefEqProofs (disch := omega) only [wcp_un, wcU_un, wcU_at, wcU_ne]
set_option maxHeartbeats 1000000 in
theorem wcD_c6 {s b : Nat} {σ : wg_M} (hd : s + 9 ≤ b ∨ b + 9 ≤ s) : wcD s b σ b 6 = σ s 6 := by
  show wcD s b σ (b + 0) 6 = σ (s + 0) 6
  unfold wcD
  simp -implicitDefEqProofs (disch := omega) only [wcp_un, wcU_un, wcU_at, wcU_ne]
set_option maxHeartbeats 1000000 in
theorem wcD_c10 {s b : Nat} {σ : wg_M} (hd : s + 9 ≤ b ∨ b + 9 ≤ s) : wcD s b σ b 10 = σ s 10 := by
  show wcD s b σ (b + 0) 10 = σ (s + 0) 10
  unfold wcD
  simp -implicitDefEqProofs (disch := omega) only [wcp_un, wcU_un, wcU_at, wcU_ne]
section WX
variable {s b : Nat} {σ : wg_M}
set_option maxHeartbeats 1000000 in
theorem wcX_r22 {i : Nat} (hd : s + 59 ≤ b ∨ b + 59 ≤ s) (hi : i < 150) : wcX s b σ (b + 22) i = σ (s + 22) i := by
  show wcX s b σ (b + 21 + 1) i = σ (s + 21 + 1) i
  unfold wcX
  simp -implicitDefEqProofs (disch := omega) only [wcD_un, wcL_un, wcK_un, wcB_un, wcL_r1]
set_option maxHeartbeats 1000000 in
theorem wcX_r23 {i : Nat} (hd : s + 59 ≤ b ∨ b + 59 ≤ s) (hi : i < 150) : wcX s b σ (b + 23) i = σ (s + 23) i := by
  show wcX s b σ (b + 21 + 2) i = σ (s + 21 + 2) i
  unfold wcX
  simp -implicitDefEqProofs (disch := omega) only [wcD_un, wcL_un, wcK_un, wcB_un, wcL_r2]
set_option maxHeartbeats 1000000 in
theorem wcX_r24 {i : Nat} (hd : s + 59 ≤ b ∨ b + 59 ≤ s) (hi : i < 150) : wcX s b σ (b + 24) i = σ (s + 24) i := by
  show wcX s b σ (b + 21 + 3) i = σ (s + 21 + 3) i
  unfold wcX
  simp -implicitDefEqProofs (disch := omega) only [wcD_un, wcL_un, wcK_un, wcB_un, wcL_r3]
set_option maxHeartbeats 1000000 in
theorem wcX_r25 {i : Nat} (hd : s + 59 ≤ b ∨ b + 59 ≤ s) (hi : i < 150) : wcX s b σ (b + 25) i = σ (s + 25) i := by
  show wcX s b σ (b + 21 + 4) i = σ (s + 21 + 4) i
  unfold wcX
  simp -implicitDefEqProofs (disch := omega) only [wcD_un, wcL_un, wcK_un, wcB_un, wcL_r4]
set_option maxHeartbeats 1000000 in
theorem wcX_r27 {i : Nat} (hd : s + 59 ≤ b ∨ b + 59 ≤ s) (hi : i < 400) : wcX s b σ (b + 27) i = σ (s + 27) i := by
  show wcX s b σ (b + 26 + 1) i = σ (s + 26 + 1) i
  unfold wcX
  simp -implicitDefEqProofs (disch := omega) only [wcD_un, wcL_un, wcK_un, wcB_un, wcK_r1]
set_option maxHeartbeats 1000000 in
theorem wcX_r28 {i : Nat} (hd : s + 59 ≤ b ∨ b + 59 ≤ s) (hi : i < 400) : wcX s b σ (b + 28) i = σ (s + 28) i := by
  show wcX s b σ (b + 26 + 2) i = σ (s + 26 + 2) i
  unfold wcX
  simp -implicitDefEqProofs (disch := omega) only [wcD_un, wcL_un, wcK_un, wcB_un, wcK_r2]
set_option maxHeartbeats 1000000 in
theorem wcX_r29 {i : Nat} (hd : s + 59 ≤ b ∨ b + 59 ≤ s) (hi : i < 16) : wcX s b σ (b + 29) i = σ (s + 29) i := by
  show wcX s b σ (b + 26 + 3) i = σ (s + 26 + 3) i
  unfold wcX
  simp -implicitDefEqProofs (disch := omega) only [wcD_un, wcL_un, wcK_un, wcB_un, wcK_r3]
set_option maxHeartbeats 1000000 in
theorem wcX_r30 {i : Nat} (hd : s + 59 ≤ b ∨ b + 59 ≤ s) (hi : i < 16) : wcX s b σ (b + 30) i = σ (s + 30) i := by
  show wcX s b σ (b + 26 + 4) i = σ (s + 26 + 4) i
  unfold wcX
  simp -implicitDefEqProofs (disch := omega) only [wcD_un, wcL_un, wcK_un, wcB_un, wcK_r4]
set_option maxHeartbeats 1000000 in
theorem wcX_r31 {i : Nat} (hd : s + 59 ≤ b ∨ b + 59 ≤ s) (hi : i < 16) : wcX s b σ (b + 31) i = σ (s + 31) i := by
  show wcX s b σ (b + 26 + 5) i = σ (s + 26 + 5) i
  unfold wcX
  simp -implicitDefEqProofs (disch := omega) only [wcD_un, wcL_un, wcK_un, wcB_un, wcK_r5]
set_option maxHeartbeats 1000000 in
theorem wcX_c26_6 (hd : s + 59 ≤ b ∨ b + 59 ≤ s) : wcX s b σ (b + 26) 6 = σ (s + 26) 6 := by
  unfold wcX
  simp -implicitDefEqProofs (disch := omega) only [wcD_un, wcL_un, wcK_un, wcB_un, wcK_c6]
set_option maxHeartbeats 1000000 in
theorem wcX_r35 {i : Nat} (hd : s + 59 ≤ b ∨ b + 59 ≤ s) (hi : i < 16) : wcX s b σ (b + 35) i = σ (s + 35) i := by
  show wcX s b σ (b + 34 + 1) i = σ (s + 34 + 1) i
  unfold wcX
  simp -implicitDefEqProofs (disch := omega) only [wcD_un, wcL_un, wcK_un, wcB_un, wcL_r1]
set_option maxHeartbeats 1000000 in
theorem wcX_r36 {i : Nat} (hd : s + 59 ≤ b ∨ b + 59 ≤ s) (hi : i < 16) : wcX s b σ (b + 36) i = σ (s + 36) i := by
  show wcX s b σ (b + 34 + 2) i = σ (s + 34 + 2) i
  unfold wcX
  simp -implicitDefEqProofs (disch := omega) only [wcD_un, wcL_un, wcK_un, wcB_un, wcL_r2]
set_option maxHeartbeats 1000000 in
theorem wcX_r37 {i : Nat} (hd : s + 59 ≤ b ∨ b + 59 ≤ s) (hi : i < 16) : wcX s b σ (b + 37) i = σ (s + 37) i := by
  show wcX s b σ (b + 34 + 3) i = σ (s + 34 + 3) i
  unfold wcX
  simp -implicitDefEqProofs (disch := omega) only [wcD_un, wcL_un, wcK_un, wcB_un, wcL_r3]
set_option maxHeartbeats 1000000 in
theorem wcX_r38 {i : Nat} (hd : s + 59 ≤ b ∨ b + 59 ≤ s) (hi : i < 16) : wcX s b σ (b + 38) i = σ (s + 38) i := by
  show wcX s b σ (b + 34 + 4) i = σ (s + 34 + 4) i
  unfold wcX
  simp -implicitDefEqProofs (disch := omega) only [wcD_un, wcL_un, wcK_un, wcB_un, wcL_r4]
set_option maxHeartbeats 1000000 in
theorem wcX_c34_4 (hd : s + 59 ≤ b ∨ b + 59 ≤ s) : wcX s b σ (b + 34) 4 = σ (s + 34) 4 := by
  unfold wcX
  simp -implicitDefEqProofs (disch := omega) only [wcD_un, wcL_un, wcK_un, wcB_un, wcL_c4]
set_option maxHeartbeats 1000000 in
theorem wcX_r40 {i : Nat} (hd : s + 59 ≤ b ∨ b + 59 ≤ s) (hi : i < 16) : wcX s b σ (b + 40) i = σ (s + 40) i := by
  show wcX s b σ (b + 39 + 1) i = σ (s + 39 + 1) i
  unfold wcX
  simp -implicitDefEqProofs (disch := omega) only [wcD_un, wcL_un, wcK_un, wcB_un, wcL_r1]
set_option maxHeartbeats 1000000 in
theorem wcX_r41 {i : Nat} (hd : s + 59 ≤ b ∨ b + 59 ≤ s) (hi : i < 16) : wcX s b σ (b + 41) i = σ (s + 41) i := by
  show wcX s b σ (b + 39 + 2) i = σ (s + 39 + 2) i
  unfold wcX
  simp -implicitDefEqProofs (disch := omega) only [wcD_un, wcL_un, wcK_un, wcB_un, wcL_r2]
set_option maxHeartbeats 1000000 in
theorem wcX_r42 {i : Nat} (hd : s + 59 ≤ b ∨ b + 59 ≤ s) (hi : i < 16) : wcX s b σ (b + 42) i = σ (s + 42) i := by
  show wcX s b σ (b + 39 + 3) i = σ (s + 39 + 3) i
  unfold wcX
  simp -implicitDefEqProofs (disch := omega) only [wcD_un, wcL_un, wcK_un, wcB_un, wcL_r3]
set_option maxHeartbeats 1000000 in
theorem wcX_r43 {i : Nat} (hd : s + 59 ≤ b ∨ b + 59 ≤ s) (hi : i < 16) : wcX s b σ (b + 43) i = σ (s + 43) i := by
  show wcX s b σ (b + 39 + 4) i = σ (s + 39 + 4) i
  unfold wcX
  simp -implicitDefEqProofs (disch := omega) only [wcD_un, wcL_un, wcK_un, wcB_un, wcL_r4]
set_option maxHeartbeats 1000000 in
theorem wcX_c39_4 (hd : s + 59 ≤ b ∨ b + 59 ≤ s) : wcX s b σ (b + 39) 4 = σ (s + 39) 4 := by
  unfold wcX
  simp -implicitDefEqProofs (disch := omega) only [wcD_un, wcL_un, wcK_un, wcB_un, wcL_c4]
set_option maxHeartbeats 1000000 in
theorem wcX_r45 {i : Nat} (hd : s + 59 ≤ b ∨ b + 59 ≤ s) (hi : i < 16) : wcX s b σ (b + 45) i = σ (s + 45) i := by
  show wcX s b σ (b + 44 + 1) i = σ (s + 44 + 1) i
  unfold wcX
  simp -implicitDefEqProofs (disch := omega) only [wcD_un, wcL_un, wcK_un, wcB_un, wcL_r1]
set_option maxHeartbeats 1000000 in
theorem wcX_r46 {i : Nat} (hd : s + 59 ≤ b ∨ b + 59 ≤ s) (hi : i < 16) : wcX s b σ (b + 46) i = σ (s + 46) i := by
  show wcX s b σ (b + 44 + 2) i = σ (s + 44 + 2) i
  unfold wcX
  simp -implicitDefEqProofs (disch := omega) only [wcD_un, wcL_un, wcK_un, wcB_un, wcL_r2]
set_option maxHeartbeats 1000000 in
theorem wcX_r47 {i : Nat} (hd : s + 59 ≤ b ∨ b + 59 ≤ s) (hi : i < 16) : wcX s b σ (b + 47) i = σ (s + 47) i := by
  show wcX s b σ (b + 44 + 3) i = σ (s + 44 + 3) i
  unfold wcX
  simp -implicitDefEqProofs (disch := omega) only [wcD_un, wcL_un, wcK_un, wcB_un, wcL_r3]
set_option maxHeartbeats 1000000 in
theorem wcX_r48 {i : Nat} (hd : s + 59 ≤ b ∨ b + 59 ≤ s) (hi : i < 16) : wcX s b σ (b + 48) i = σ (s + 48) i := by
  show wcX s b σ (b + 44 + 4) i = σ (s + 44 + 4) i
  unfold wcX
  simp -implicitDefEqProofs (disch := omega) only [wcD_un, wcL_un, wcK_un, wcB_un, wcL_r4]
set_option maxHeartbeats 1000000 in
theorem wcX_c44_4 (hd : s + 59 ≤ b ∨ b + 59 ≤ s) : wcX s b σ (b + 44) 4 = σ (s + 44) 4 := by
  unfold wcX
  simp -implicitDefEqProofs (disch := omega) only [wcD_un, wcL_un, wcK_un, wcB_un, wcL_c4]
set_option maxHeartbeats 1000000 in
theorem wcX_r50 {i : Nat} (hd : s + 59 ≤ b ∨ b + 59 ≤ s) (hi : i < 8) : wcX s b σ (b + 50) i = σ (s + 50) i := by
  show wcX s b σ (b + 49 + 1) i = σ (s + 49 + 1) i
  unfold wcX
  simp -implicitDefEqProofs (disch := omega) only [wcD_un, wcL_un, wcK_un, wcB_un, wcD_r1]
set_option maxHeartbeats 1000000 in
theorem wcX_r51 {i : Nat} (hd : s + 59 ≤ b ∨ b + 59 ≤ s) (hi : i < 8) : wcX s b σ (b + 51) i = σ (s + 51) i := by
  show wcX s b σ (b + 49 + 2) i = σ (s + 49 + 2) i
  unfold wcX
  simp -implicitDefEqProofs (disch := omega) only [wcD_un, wcL_un, wcK_un, wcB_un, wcD_r2]
set_option maxHeartbeats 1000000 in
theorem wcX_r52 {i : Nat} (hd : s + 59 ≤ b ∨ b + 59 ≤ s) (hi : i < 8) : wcX s b σ (b + 52) i = σ (s + 52) i := by
  show wcX s b σ (b + 49 + 3) i = σ (s + 49 + 3) i
  unfold wcX
  simp -implicitDefEqProofs (disch := omega) only [wcD_un, wcL_un, wcK_un, wcB_un, wcD_r3]
set_option maxHeartbeats 1000000 in
theorem wcX_r53 {i : Nat} (hd : s + 59 ≤ b ∨ b + 59 ≤ s) (hi : i < 16) : wcX s b σ (b + 53) i = σ (s + 53) i := by
  show wcX s b σ (b + 49 + 4) i = σ (s + 49 + 4) i
  unfold wcX
  simp -implicitDefEqProofs (disch := omega) only [wcD_un, wcL_un, wcK_un, wcB_un, wcD_r4]
set_option maxHeartbeats 1000000 in
theorem wcX_r54 {i : Nat} (hd : s + 59 ≤ b ∨ b + 59 ≤ s) (hi : i < 16) : wcX s b σ (b + 54) i = σ (s + 54) i := by
  show wcX s b σ (b + 49 + 5) i = σ (s + 49 + 5) i
  unfold wcX
  simp -implicitDefEqProofs (disch := omega) only [wcD_un, wcL_un, wcK_un, wcB_un, wcD_r5]
set_option maxHeartbeats 1000000 in
theorem wcX_r55 {i : Nat} (hd : s + 59 ≤ b ∨ b + 59 ≤ s) (hi : i < 20) : wcX s b σ (b + 55) i = σ (s + 55) i := by
  show wcX s b σ (b + 49 + 6) i = σ (s + 49 + 6) i
  unfold wcX
  simp -implicitDefEqProofs (disch := omega) only [wcD_un, wcL_un, wcK_un, wcB_un, wcD_r6]
set_option maxHeartbeats 1000000 in
theorem wcX_r56 {i : Nat} (hd : s + 59 ≤ b ∨ b + 59 ≤ s) (hi : i < 7) : wcX s b σ (b + 56) i = σ (s + 56) i := by
  show wcX s b σ (b + 49 + 7) i = σ (s + 49 + 7) i
  unfold wcX
  simp -implicitDefEqProofs (disch := omega) only [wcD_un, wcL_un, wcK_un, wcB_un, wcD_r7]
set_option maxHeartbeats 1000000 in
theorem wcX_r57 {i : Nat} (hd : s + 59 ≤ b ∨ b + 59 ≤ s) (hi : i < 7) : wcX s b σ (b + 57) i = σ (s + 57) i := by
  show wcX s b σ (b + 49 + 8) i = σ (s + 49 + 8) i
  unfold wcX
  simp -implicitDefEqProofs (disch := omega) only [wcD_un, wcL_un, wcK_un, wcB_un, wcD_r8]
set_option maxHeartbeats 1000000 in
theorem wcX_c49_3 (hd : s + 59 ≤ b ∨ b + 59 ≤ s) : wcX s b σ (b + 49) 3 = σ (s + 49) 3 := by
  unfold wcX
  simp -implicitDefEqProofs (disch := omega) only [wcD_un, wcL_un, wcK_un, wcB_un, wcD_c3]
set_option maxHeartbeats 1000000 in
theorem wcX_c49_6 (hd : s + 59 ≤ b ∨ b + 59 ≤ s) : wcX s b σ (b + 49) 6 = σ (s + 49) 6 := by
  unfold wcX
  simp -implicitDefEqProofs (disch := omega) only [wcD_un, wcL_un, wcK_un, wcB_un, wcD_c6]
set_option maxHeartbeats 1000000 in
theorem wcX_c49_10 (hd : s + 59 ≤ b ∨ b + 59 ≤ s) : wcX s b σ (b + 49) 10 = σ (s + 49) 10 := by
  unfold wcX
  simp -implicitDefEqProofs (disch := omega) only [wcD_un, wcL_un, wcK_un, wcB_un, wcD_c10]
set_option maxHeartbeats 1000000 in
theorem wcX_W {nw nj nc : Nat} {τ : wg_M} (hd : s + 59 ≤ b ∨ b + 59 ≤ s) (h : wRW nw nj nc σ s τ) : wRW nw nj nc (wcX s b σ) b τ := by
  obtain ⟨h1, h2, h3, h4, h5, h6, h7, h8, h9, h10, h11, h12⟩ := h
  obtain ⟨n1, n2, n3, -⟩ := id h1
  refine ⟨h1, ?_, h3, fun i hi => ?_, ?_, ?_, ?_, ?_, ?_, ?_, fun i hi => ?_, ?_⟩
  · exact wB_fr ⟨n1, n2, n3⟩ (fun a q1 q2 => by
      unfold wcX
      simp -implicitDefEqProofs (disch := omega) only [wcD_un, wcL_un, wcK_un]) (fun _ _ => rfl) (fun _ _ => rfl) (fun _ _ => rfl) (fun _ _ => rfl) (fun _ _ => rfl) (wcB_B ⟨n1, n2, n3⟩ (by omega) h2)
  · rw [wcX_r22 hd hi, wcX_r23 hd hi, wcX_r24 hd hi, wcX_r25 hd hi]
    exact h4 i hi
  · obtain ⟨n, a1, a2, a3, ct, c1, c2, a4⟩ := h5
    refine ⟨n, a1, by rw [wcX_c26_6 hd]; exact a2, a3, ct, c1, c2, fun l hl => ⟨?_, (a4 l hl).2⟩⟩
    obtain ⟨b1, b2, b3, b4, b5, b6, b7, b8, b9⟩ := (a4 l hl).1
    refine ⟨?_, ?_, ?_, b4, b5, ?_, ?_, b8, b9⟩
    · rw [wcX_r29 hd (by omega)]; exact b1
    · rw [wcX_r30 hd (by omega)]; exact b2
    · rw [wcX_r31 hd (by omega)]; exact b3
    · exact wo_C_fr _ _ (fun i q1 q2 => ⟨wcX_r27 hd (by omega), wcX_r28 hd (by omega)⟩) b6
    · exact wo_C_fr _ _ (fun i q1 q2 => ⟨wcX_r27 hd (by omega), wcX_r28 hd (by omega)⟩) b7
  · obtain ⟨n, a1, a2, a3, a4⟩ := h6
    refine ⟨n, a1, by rw [wcX_c34_4 hd]; exact a2, a3, fun i hi => ?_⟩
    rw [wcX_r35 hd (by omega), wcX_r37 hd (by omega), wcX_r38 hd (by omega)]
    exact a4 i hi
  · obtain ⟨n, a1, a2, a3, a4⟩ := h7
    refine ⟨n, a1, by rw [wcX_c39_4 hd]; exact a2, a3, fun i hi => ?_⟩
    rw [wcX_r40 hd (by omega), wcX_r41 hd (by omega), wcX_r42 hd (by omega), wcX_r43 hd (by omega)]
    exact a4 i hi
  · obtain ⟨n, a1, a2, a3, a4, a5⟩ := h8
    refine ⟨n, a1, by rw [wcX_c44_4 hd]; exact a2, a3, fun i hi => ?_, fun w hw => ?_⟩
    · rw [wcX_r47 hd (by omega), wcX_r48 hd (by omega)]
      exact a4 i hi
    · rcases a5 w hw with ⟨i, p1, p2, p3, p4⟩ | ⟨p1, p2⟩
      · refine Or.inl ⟨i, p1, ?_, fun k hk => ?_, ?_⟩
        · rw [wcX_r47 hd (by omega)]; exact p2
        · rw [wcX_r47 hd (by omega)]; exact p3 k hk
        · rw [wcX_r48 hd (by omega)]; exact p4
      · refine Or.inr ⟨fun i hi => ?_, p2⟩
        rw [wcX_r47 hd (by omega)]; exact p1 i hi
  · obtain ⟨n, a1, a2, a3, a4⟩ := h9
    refine ⟨n, a1, by rw [wcX_c49_3 hd]; exact a2, a3, fun i hi => ?_⟩
    rw [wcX_r50 hd (by omega), wcX_r51 hd (by omega), wcX_r52 hd (by omega)]
    exact a4 i hi
  · obtain ⟨n, a1, a2, a3, a4, a5⟩ := h10
    refine ⟨n, a1, by rw [wcX_c49_6 hd]; exact a2, a3, fun i hi => ?_, fun a ha => ?_⟩
    · rw [wcX_r53 hd (by omega), wcX_r54 hd (by omega)]
      exact a4 i hi
    · obtain ⟨m, m1, m2, m3⟩ := a5 a ha
      refine ⟨m, m1, m2, fun c hc => (m3 c hc).trans ⟨fun ⟨i, i1, i2, i3⟩ => ⟨i, i1, ?_, ?_⟩, fun ⟨i, i1, i2, i3⟩ => ⟨i, i1, ?_, ?_⟩⟩⟩
      · rw [wcX_r53 hd (by omega)]; exact i2
      · rw [wcX_r54 hd (by omega)]; exact i3
      · rw [wcX_r53 hd (by omega)] at i2; exact i2
      · rw [wcX_r54 hd (by omega)] at i3; exact i3
  · rw [wcX_r55 hd hi]
    exact h11 i hi
  · obtain ⟨n, a1, a2, a3, a4⟩ := h12
    refine ⟨n, a1, by rw [wcX_c49_10 hd]; exact a2, a3, fun i hi => ?_⟩
    rw [wcX_r56 hd (by omega), wcX_r57 hd (by omega)]
    exact a4 i hi
end WX

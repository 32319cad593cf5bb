theorem e_X12_wearerOf (x1 : Int32) (σ : wg_M) : f_X12_wearerOf 0 x1 σ = f_X12_wearerOf_2  wg_N 0 x1 (0 : Int32) σ := rfl
theorem e_X12_ruleAt (x1 : Int32) (x2 : Int32) (σ : wg_M) : f_X12_ruleAt 0 x1 x2 σ = some (((75 : Int32) + ((24 : Int32) * x1)) + ((3 : Int32) * x2), σ) := rfl
theorem e_X12_isItching_81 (σ : wg_M) : f_X12_isItching_81 σ = some ((1 : Int32), σ) := rfl
def q_X12_isItching_57__2 (σ : wg_M) (v2 : Int32) : Option (Int32 × wg_M) := if 0 ≤ v2 then (some ((0 : Int32), σ)) else (f_X12_isItching_81   σ)
def q_X12_isItching_57__1 (x5 : Int32) (σ : wg_M) (v1 : Int32) : Option (Int32 × wg_M) := if v1 ≤ 0 then (some ((0 : Int32), σ)) else (wg_ga 295 (σ 1) (x5 + (1 : Int32)) (q_X12_isItching_57__2 σ))
theorem e_X12_isItching_57__1 (x5 : Int32) (σ : wg_M) (v1 : Int32) : q_X12_isItching_57__1 x5 σ v1 = if v1 ≤ 0 then (some ((0 : Int32), σ)) else (wg_ga 295 (σ 1) (x5 + (1 : Int32)) (q_X12_isItching_57__2 σ)) := rfl
theorem e_X12_isItching_57__2 (σ : wg_M) (v2 : Int32) : q_X12_isItching_57__2 σ v2 = if 0 ≤ v2 then (some ((0 : Int32), σ)) else (f_X12_isItching_81   σ) := rfl
theorem e_X12_isItching_57 (x4 : Int32) (x5 : Int32) (σ : wg_M) : f_X12_isItching_57 0 x4 x5 σ = wg_ga 295 (σ 1) (x4 + (1 : Int32)) (q_X12_isItching_57__1 x5 σ) := by
  unfold f_X12_isItching_57
  simp only [sm_n1, sm_r0_1]
  rfl
def q_X12_isItching__6 (v1 : Int32) (v3 : Int32) (s4 : wg_M) (v8 : Int32) : Option (Int32 × wg_M) := if 0 < v8 then (f_X12_isItching_81   s4) else (f_X12_isItching_57  0 v1 v3 s4)
def q_X12_isItching__5 (v1 : Int32) (v3 : Int32) (s4 : wg_M) (v7 : Int32) : Option (Int32 × wg_M) := if 0 ≤ v7 then (f_X12_isItching_57  0 v1 v3 s4) else (wg_ga 295 (s4 1) (v3 + (1 : Int32)) (q_X12_isItching__6 v1 v3 s4))
def q_X12_isItching__4 (v1 : Int32) (v3 : Int32) (s4 : wg_M) (v5 : Int32) (v6 : Int32) : Option (Int32 × wg_M) := if v5 = v6 then (wg_ga 295 (s4 1) (v1 + (1 : Int32)) (q_X12_isItching__5 v1 v3 s4)) else (some ((0 : Int32), s4))
def q_X12_isItching__3 (v1 : Int32) (v3 : Int32) (s4 : wg_M) (v5 : Int32) : Option (Int32 × wg_M) := wg_ga 295 (s4 1) v3 (q_X12_isItching__4 v1 v3 s4 v5)
def q_X12_isItching__2 (v1 : Int32) (v3 : Int32) (s4 : wg_M) : Option (Int32 × wg_M) := wg_ga 295 (s4 1) v1 (q_X12_isItching__3 v1 v3 s4)
def q_X12_isItching__1 (x1 : Int32) (x3 : Int32) (v1 : Int32) (s2 : wg_M) : Option (Int32 × wg_M) := wg_bd (f_X12_ruleAt 0 x1 x3 s2) (q_X12_isItching__2 v1)
theorem e_X12_isItching__1 (x1 : Int32) (x3 : Int32) (v1 : Int32) (s2 : wg_M) : q_X12_isItching__1 x1 x3 v1 s2 = wg_bd (f_X12_ruleAt 0 x1 x3 s2) (q_X12_isItching__2 v1) := rfl
theorem e_X12_isItching__2 (v1 : Int32) (v3 : Int32) (s4 : wg_M) : q_X12_isItching__2 v1 v3 s4 = wg_ga 295 (s4 1) v1 (q_X12_isItching__3 v1 v3 s4) := rfl
theorem e_X12_isItching__3 (v1 : Int32) (v3 : Int32) (s4 : wg_M) (v5 : Int32) : q_X12_isItching__3 v1 v3 s4 v5 = wg_ga 295 (s4 1) v3 (q_X12_isItching__4 v1 v3 s4 v5) := rfl
theorem e_X12_isItching__4 (v1 : Int32) (v3 : Int32) (s4 : wg_M) (v5 : Int32) (v6 : Int32) : q_X12_isItching__4 v1 v3 s4 v5 v6 = if v5 = v6 then (wg_ga 295 (s4 1) (v1 + (1 : Int32)) (q_X12_isItching__5 v1 v3 s4)) else (some ((0 : Int32), s4)) := rfl
theorem e_X12_isItching__5 (v1 : Int32) (v3 : Int32) (s4 : wg_M) (v7 : Int32) : q_X12_isItching__5 v1 v3 s4 v7 = if 0 ≤ v7 then (f_X12_isItching_57  0 v1 v3 s4) else (wg_ga 295 (s4 1) (v3 + (1 : Int32)) (q_X12_isItching__6 v1 v3 s4)) := rfl
theorem e_X12_isItching__6 (v1 : Int32) (v3 : Int32) (s4 : wg_M) (v8 : Int32) : q_X12_isItching__6 v1 v3 s4 v8 = if 0 < v8 then (f_X12_isItching_81   s4) else (f_X12_isItching_57  0 v1 v3 s4) := rfl
theorem e_X12_isItching (x1 : Int32) (x2 : Int32) (x3 : Int32) (σ : wg_M) : f_X12_isItching 0 x1 x2 x3 σ = wg_bd (f_X12_ruleAt 0 x1 x2 σ) (q_X12_isItching__1 x1 x3) := by
  unfold f_X12_isItching
  simp only [sm_n1, sm_r0_1]
  rfl
def q_X12_itches_41__1 (k20 : Nat → Int32 → Int32 → Int32 → Int32 → wg_M → Option (Int32 × wg_M)) (x1 : Int32) (x2 : Int32) (x3 : Int32) (σ : wg_M) (v1 : Int32) : Option (Int32 × wg_M) := k20 0 x1 x2 x3 v1 σ
theorem e_X12_itches_41__1 (k20 : Nat → Int32 → Int32 → Int32 → Int32 → wg_M → Option (Int32 × wg_M)) (x1 : Int32) (x2 : Int32) (x3 : Int32) (σ : wg_M) (v1 : Int32) : q_X12_itches_41__1 k20 x1 x2 x3 σ v1 = k20 0 x1 x2 x3 v1 σ := rfl
theorem e_X12_itches_41 (k20 : Nat → Int32 → Int32 → Int32 → Int32 → wg_M → Option (Int32 × wg_M)) (x1 : Int32) (x2 : Int32) (x3 : Int32) (x4 : Int32) (σ : wg_M) : f_X12_itches_41 k20 0 x1 x2 x3 x4 σ = wg_let (x4 + (1 : Int32)) (q_X12_itches_41__1 k20 x1 x2 x3 σ) := rfl
def q_X12_itches_20__3 (k4 : Nat → Int32 → Int32 → Int32 → wg_M → Option (Int32 × wg_M)) (n : Nat) (x1 : Int32) (x3 : Int32) (x4 : Int32) (s3 : wg_M) (v4 : Int32) : Option (Int32 × wg_M) := f_X12_itches_41 (f_X12_itches_20 k4 n) 0 x1 v4 x3 x4 s3
def q_X12_itches_20__2 (k4 : Nat → Int32 → Int32 → Int32 → wg_M → Option (Int32 × wg_M)) (n : Nat) (x1 : Int32) (x2 : Int32) (x3 : Int32) (x4 : Int32) (v2 : Int32) (s3 : wg_M) : Option (Int32 × wg_M) := if v2 = 0 then (f_X12_itches_41 (f_X12_itches_20 k4 n) 0 x1 x2 x3 x4 s3) else (wg_let (x2 + (1 : Int32)) (q_X12_itches_20__3 k4 n x1 x3 x4 s3))
def q_X12_itches_20__1 (k4 : Nat → Int32 → Int32 → Int32 → wg_M → Option (Int32 × wg_M)) (x1 : Int32) (x2 : Int32) (σ : wg_M) (v1 : Int32) : Option (Int32 × wg_M) := k4 0 x1 x2 v1 σ
theorem e_X12_itches_20__1 (k4 : Nat → Int32 → Int32 → Int32 → wg_M → Option (Int32 × wg_M)) (x1 : Int32) (x2 : Int32) (σ : wg_M) (v1 : Int32) : q_X12_itches_20__1 k4 x1 x2 σ v1 = k4 0 x1 x2 v1 σ := rfl
theorem e_X12_itches_20__2 (k4 : Nat → Int32 → Int32 → Int32 → wg_M → Option (Int32 × wg_M)) (n : Nat) (x1 : Int32) (x2 : Int32) (x3 : Int32) (x4 : Int32) (v2 : Int32) (s3 : wg_M) : q_X12_itches_20__2 k4 n x1 x2 x3 x4 v2 s3 = if v2 = 0 then (f_X12_itches_41 (f_X12_itches_20 k4 n) 0 x1 x2 x3 x4 s3) else (wg_let (x2 + (1 : Int32)) (q_X12_itches_20__3 k4 n x1 x3 x4 s3)) := rfl
theorem e_X12_itches_20__3 (k4 : Nat → Int32 → Int32 → Int32 → wg_M → Option (Int32 × wg_M)) (n : Nat) (x1 : Int32) (x3 : Int32) (x4 : Int32) (s3 : wg_M) (v4 : Int32) : q_X12_itches_20__3 k4 n x1 x3 x4 s3 v4 = f_X12_itches_41 (f_X12_itches_20 k4 n) 0 x1 v4 x3 x4 s3 := rfl
theorem e_X12_itches_20 (k4 : Nat → Int32 → Int32 → Int32 → wg_M → Option (Int32 × wg_M)) (n : Nat) (x1 : Int32) (x2 : Int32) (x3 : Int32) (x4 : Int32) (σ : wg_M) : f_X12_itches_20 k4 (n + 1) 0 x1 x2 x3 x4 σ = if x3 ≤ x4 then (wg_let (x3 + (1 : Int32)) (q_X12_itches_20__1 k4 x1 x2 σ)) else (wg_bd (f_X12_isItching 0 x1 x3 x4 σ) (q_X12_itches_20__2 k4 n x1 x2 x3 x4)) := by
  rw [f_X12_itches_20]
  rfl
def q_X12_itches_4__3 (s4 : wg_M) : Option (Int32 × wg_M) := some (0, s4)
def q_X12_itches_4__2 (x1 : Int32) (v2 : Int32) (s3 : wg_M) : Option (Int32 × wg_M) := wg_sa 295 s3 1 ((51 : Int32) + x1) v2 q_X12_itches_4__3
def q_X12_itches_4__1 (n : Nat) (x1 : Int32) (x2 : Int32) (x3 : Int32) (σ : wg_M) (v1 : Int32) : Option (Int32 × wg_M) := if v1 ≤ x3 then (wg_bd (f_X12_lesser 0 (99 : Int32) ((9 : Int32) * x2) σ) (q_X12_itches_4__2 x1)) else (f_X12_itches_20 (f_X12_itches_4  n) wg_N 0 x1 x2 x3 (0 : Int32) σ)
theorem e_X12_itches_4__1 (n : Nat) (x1 : Int32) (x2 : Int32) (x3 : Int32) (σ : wg_M) (v1 : Int32) : q_X12_itches_4__1 n x1 x2 x3 σ v1 = if v1 ≤ x3 then (wg_bd (f_X12_lesser 0 (99 : Int32) ((9 : Int32) * x2) σ) (q_X12_itches_4__2 x1)) else (f_X12_itches_20 (f_X12_itches_4  n) wg_N 0 x1 x2 x3 (0 : Int32) σ) := rfl
theorem e_X12_itches_4__2 (x1 : Int32) (v2 : Int32) (s3 : wg_M) : q_X12_itches_4__2 x1 v2 s3 = wg_sa 295 s3 1 ((51 : Int32) + x1) v2 q_X12_itches_4__3 := rfl
theorem e_X12_itches_4__3 (s4 : wg_M) : q_X12_itches_4__3 s4 = some (0, s4) := rfl
theorem e_X12_itches_4 (n : Nat) (x1 : Int32) (x2 : Int32) (x3 : Int32) (σ : wg_M) : f_X12_itches_4 (n + 1) 0 x1 x2 x3 σ = wg_ga 295 (σ 1) ((67 : Int32) + x1) (q_X12_itches_4__1 n x1 x2 x3 σ) := by
  rw [f_X12_itches_4]
  simp only [sm_n1, sm_r0_1]
  rfl
theorem e_X12_itches (x1 : Int32) (σ : wg_M) : f_X12_itches 0 x1 σ = f_X12_itches_4  wg_N 0 x1 (0 : Int32) (0 : Int32) σ := rfl
def q_X12_goesRule_7__7 (n : Nat) (x1 : Int32) (s7 : wg_M) (v8 : Int32) : Option (Int32 × wg_M) := f_X12_goesRule_7  n 0 x1 v8 s7
def q_X12_goesRule_7__6 (n : Nat) (x1 : Int32) (x3 : Int32) (s7 : wg_M) : Option (Int32 × wg_M) := wg_let (x3 + (1 : Int32)) (q_X12_goesRule_7__7 n x1 s7)
def q_X12_goesRule_7__5 (n : Nat) (x1 : Int32) (x3 : Int32) (s3 : wg_M) (v6 : Int32) : Option (Int32 × wg_M) := wg_sa 295 s3 1 x3 v6 (q_X12_goesRule_7__6 n x1 x3)
def q_X12_goesRule_7__4 (s5 : wg_M) : Option (Int32 × wg_M) := some (0, s5)
def q_X12_goesRule_7__3 (x1 : Int32) (s3 : wg_M) (v4 : Int32) : Option (Int32 × wg_M) := wg_sa 295 s3 1 ((67 : Int32) + x1) (v4 - (1 : Int32)) q_X12_goesRule_7__4
def q_X12_goesRule_7__2 (n : Nat) (x1 : Int32) (x3 : Int32) (v2 : Int32) (s3 : wg_M) : Option (Int32 × wg_M) := if v2 ≤ x3 then (wg_ga 295 (s3 1) ((67 : Int32) + x1) (q_X12_goesRule_7__3 x1 s3)) else (wg_ga 295 (s3 1) (x3 + (3 : Int32)) (q_X12_goesRule_7__5 n x1 x3 s3))
def q_X12_goesRule_7__1 (n : Nat) (x1 : Int32) (x3 : Int32) (σ : wg_M) (v1 : Int32) : Option (Int32 × wg_M) := wg_bd (f_X12_ruleAt 0 x1 (v1 - (1 : Int32)) σ) (q_X12_goesRule_7__2 n x1 x3)
theorem e_X12_goesRule_7__1 (n : Nat) (x1 : Int32) (x3 : Int32) (σ : wg_M) (v1 : Int32) : q_X12_goesRule_7__1 n x1 x3 σ v1 = wg_bd (f_X12_ruleAt 0 x1 (v1 - (1 : Int32)) σ) (q_X12_goesRule_7__2 n x1 x3) := rfl
theorem e_X12_goesRule_7__2 (n : Nat) (x1 : Int32) (x3 : Int32) (v2 : Int32) (s3 : wg_M) : q_X12_goesRule_7__2 n x1 x3 v2 s3 = if v2 ≤ x3 then (wg_ga 295 (s3 1) ((67 : Int32) + x1) (q_X12_goesRule_7__3 x1 s3)) else (wg_ga 295 (s3 1) (x3 + (3 : Int32)) (q_X12_goesRule_7__5 n x1 x3 s3)) := rfl
theorem e_X12_goesRule_7__3 (x1 : Int32) (s3 : wg_M) (v4 : Int32) : q_X12_goesRule_7__3 x1 s3 v4 = wg_sa 295 s3 1 ((67 : Int32) + x1) (v4 - (1 : Int32)) q_X12_goesRule_7__4 := rfl
theorem e_X12_goesRule_7__4 (s5 : wg_M) : q_X12_goesRule_7__4 s5 = some (0, s5) := rfl
theorem e_X12_goesRule_7__5 (n : Nat) (x1 : Int32) (x3 : Int32) (s3 : wg_M) (v6 : Int32) : q_X12_goesRule_7__5 n x1 x3 s3 v6 = wg_sa 295 s3 1 x3 v6 (q_X12_goesRule_7__6 n x1 x3) := rfl
theorem e_X12_goesRule_7__6 (n : Nat) (x1 : Int32) (x3 : Int32) (s7 : wg_M) : q_X12_goesRule_7__6 n x1 x3 s7 = wg_let (x3 + (1 : Int32)) (q_X12_goesRule_7__7 n x1 s7) := rfl
theorem e_X12_goesRule_7__7 (n : Nat) (x1 : Int32) (s7 : wg_M) (v8 : Int32) : q_X12_goesRule_7__7 n x1 s7 v8 = f_X12_goesRule_7  n 0 x1 v8 s7 := rfl
theorem e_X12_goesRule_7 (n : Nat) (x1 : Int32) (x3 : Int32) (σ : wg_M) : f_X12_goesRule_7 (n + 1) 0 x1 x3 σ = wg_ga 295 (σ 1) ((67 : Int32) + x1) (q_X12_goesRule_7__1 n x1 x3 σ) := by
  rw [f_X12_goesRule_7]
  simp only [sm_n1, sm_r0_1]
  rfl
def q_X12_goesRule__1 (x1 : Int32) (v1 : Int32) (s2 : wg_M) : Option (Int32 × wg_M) := f_X12_goesRule_7  wg_N 0 x1 v1 s2
theorem e_X12_goesRule__1 (x1 : Int32) (v1 : Int32) (s2 : wg_M) : q_X12_goesRule__1 x1 v1 s2 = f_X12_goesRule_7  wg_N 0 x1 v1 s2 := rfl
theorem e_X12_goesRule (x1 : Int32) (x2 : Int32) (σ : wg_M) : f_X12_goesRule 0 x1 x2 σ = wg_bd (f_X12_ruleAt 0 x1 x2 σ) (q_X12_goesRule__1 x1) := rfl
def q_X12_comesRule__8 (_u8 : Int32) (s9 : wg_M) : Option (Int32 × wg_M) := some (0, s9)
def q_X12_comesRule__7 (x1 : Int32) (s8 : wg_M) : Option (Int32 × wg_M) := wg_bd (f_X12_itches 0 x1 s8) q_X12_comesRule__8
def q_X12_comesRule__6 (x1 : Int32) (s6 : wg_M) (v7 : Int32) : Option (Int32 × wg_M) := wg_sa 295 s6 1 ((67 : Int32) + x1) (v7 + (1 : Int32)) (q_X12_comesRule__7 x1)
def q_X12_comesRule__5 (x1 : Int32) (s6 : wg_M) : Option (Int32 × wg_M) := wg_ga 295 (s6 1) ((67 : Int32) + x1) (q_X12_comesRule__6 x1 s6)
def q_X12_comesRule__4 (x1 : Int32) (x4 : Int32) (v2 : Int32) (s5 : wg_M) : Option (Int32 × wg_M) := wg_sa 295 s5 1 (v2 + (2 : Int32)) x4 (q_X12_comesRule__5 x1)
def q_X12_comesRule__3 (x1 : Int32) (x3 : Int32) (x4 : Int32) (v2 : Int32) (s4 : wg_M) : Option (Int32 × wg_M) := wg_sa 295 s4 1 (v2 + (1 : Int32)) x3 (q_X12_comesRule__4 x1 x4 v2)
def q_X12_comesRule__2 (x1 : Int32) (x2 : Int32) (x3 : Int32) (x4 : Int32) (v2 : Int32) (s3 : wg_M) : Option (Int32 × wg_M) := wg_sa 295 s3 1 v2 x2 (q_X12_comesRule__3 x1 x3 x4 v2)
def q_X12_comesRule__1 (x1 : Int32) (x2 : Int32) (x3 : Int32) (x4 : Int32) (σ : wg_M) (v1 : Int32) : Option (Int32 × wg_M) := wg_bd (f_X12_ruleAt 0 x1 v1 σ) (q_X12_comesRule__2 x1 x2 x3 x4)
theorem e_X12_comesRule__1 (x1 : Int32) (x2 : Int32) (x3 : Int32) (x4 : Int32) (σ : wg_M) (v1 : Int32) : q_X12_comesRule__1 x1 x2 x3 x4 σ v1 = wg_bd (f_X12_ruleAt 0 x1 v1 σ) (q_X12_comesRule__2 x1 x2 x3 x4) := rfl
theorem e_X12_comesRule__2 (x1 : Int32) (x2 : Int32) (x3 : Int32) (x4 : Int32) (v2 : Int32) (s3 : wg_M) : q_X12_comesRule__2 x1 x2 x3 x4 v2 s3 = wg_sa 295 s3 1 v2 x2 (q_X12_comesRule__3 x1 x3 x4 v2) := rfl
theorem e_X12_comesRule__3 (x1 : Int32) (x3 : Int32) (x4 : Int32) (v2 : Int32) (s4 : wg_M) : q_X12_comesRule__3 x1 x3 x4 v2 s4 = wg_sa 295 s4 1 (v2 + (1 : Int32)) x3 (q_X12_comesRule__4 x1 x4 v2) := rfl
theorem e_X12_comesRule__4 (x1 : Int32) (x4 : Int32) (v2 : Int32) (s5 : wg_M) : q_X12_comesRule__4 x1 x4 v2 s5 = wg_sa 295 s5 1 (v2 + (2 : Int32)) x4 (q_X12_comesRule__5 x1) := rfl
theorem e_X12_comesRule__5 (x1 : Int32) (s6 : wg_M) : q_X12_comesRule__5 x1 s6 = wg_ga 295 (s6 1) ((67 : Int32) + x1) (q_X12_comesRule__6 x1 s6) := rfl
theorem e_X12_comesRule__6 (x1 : Int32) (s6 : wg_M) (v7 : Int32) : q_X12_comesRule__6 x1 s6 v7 = wg_sa 295 s6 1 ((67 : Int32) + x1) (v7 + (1 : Int32)) (q_X12_comesRule__7 x1) := rfl
theorem e_X12_comesRule__7 (x1 : Int32) (s8 : wg_M) : q_X12_comesRule__7 x1 s8 = wg_bd (f_X12_itches 0 x1 s8) q_X12_comesRule__8 := rfl
theorem e_X12_comesRule__8 (_u8 : Int32) (s9 : wg_M) : q_X12_comesRule__8 _u8 s9 = some (0, s9) := rfl
theorem e_X12_comesRule (x1 : Int32) (x2 : Int32) (x3 : Int32) (x4 : Int32) (σ : wg_M) : f_X12_comesRule 0 x1 x2 x3 x4 σ = wg_ga 295 (σ 1) ((67 : Int32) + x1) (q_X12_comesRule__1 x1 x2 x3 x4 σ) := by
  unfold f_X12_comesRule
  simp only [sm_n1, sm_r0_1]
  rfl
def q_X12_wig__10 (s12 : wg_M) : Option (Int32 × wg_M) := some ((s12 0 6) - (1 : Int32), s12)
def q_X12_wig__9 (s11 : wg_M) : Option (Int32 × wg_M) := wg_st s11 0 3 (0 : Int32) q_X12_wig__10
def q_X12_wig__8 (s10 : wg_M) : Option (Int32 × wg_M) := wg_st s10 0 6 ((s10 0 6) + (1 : Int32)) q_X12_wig__9
def q_X12_wig__7 (s9 : wg_M) : Option (Int32 × wg_M) := wg_sa 295 s9 1 ((67 : Int32) + (s9 0 6)) (0 : Int32) q_X12_wig__8
def q_X12_wig__6 (s8 : wg_M) : Option (Int32 × wg_M) := wg_sa 295 s8 1 ((59 : Int32) + (s8 0 6)) (0 : Int32) q_X12_wig__7
def q_X12_wig__5 (s7 : wg_M) : Option (Int32 × wg_M) := wg_sa 295 s7 1 ((51 : Int32) + (s7 0 6)) (0 : Int32) q_X12_wig__6
def q_X12_wig__4 (x2 : Int32) (s6 : wg_M) : Option (Int32 × wg_M) := wg_sa 295 s6 1 ((43 : Int32) + (s6 0 6)) x2 q_X12_wig__5
def q_X12_wig__3 (x1 : Int32) (x2 : Int32) (v4 : Int32) (s5 : wg_M) : Option (Int32 × wg_M) := if v4 = 0 then (some ((-1 : Int32), s5)) else (if (s5 0 6) = (8 : Int32) then (some ((-1 : Int32), s5)) else (wg_sa 8 s5 4 (s5 0 6) x1 (q_X12_wig__4 x2)))
def q_X12_wig__2 (x1 : Int32) (x2 : Int32) (v2 : Int32) (s3 : wg_M) : Option (Int32 × wg_M) := if v2 = 0 then (some ((-1 : Int32), s3)) else (wg_bd (f_X12_isIn 0 x2 (0 : Int32) (99 : Int32) s3) (q_X12_wig__3 x1 x2))
def q_X12_wig__1 (x1 : Int32) (x2 : Int32) (s1 : wg_M) : Option (Int32 × wg_M) := wg_bd (f_X12_isIn 0 x1 (0 : Int32) (2 : Int32) s1) (q_X12_wig__2 x1 x2)
theorem e_X12_wig__1 (x1 : Int32) (x2 : Int32) (s1 : wg_M) : q_X12_wig__1 x1 x2 s1 = wg_bd (f_X12_isIn 0 x1 (0 : Int32) (2 : Int32) s1) (q_X12_wig__2 x1 x2) := rfl
theorem e_X12_wig__2 (x1 : Int32) (x2 : Int32) (v2 : Int32) (s3 : wg_M) : q_X12_wig__2 x1 x2 v2 s3 = if v2 = 0 then (some ((-1 : Int32), s3)) else (wg_bd (f_X12_isIn 0 x2 (0 : Int32) (99 : Int32) s3) (q_X12_wig__3 x1 x2)) := rfl
theorem e_X12_wig__3 (x1 : Int32) (x2 : Int32) (v4 : Int32) (s5 : wg_M) : q_X12_wig__3 x1 x2 v4 s5 = if v4 = 0 then (some ((-1 : Int32), s5)) else (if (s5 0 6) = (8 : Int32) then (some ((-1 : Int32), s5)) else (wg_sa 8 s5 4 (s5 0 6) x1 (q_X12_wig__4 x2))) := rfl
theorem e_X12_wig__4 (x2 : Int32) (s6 : wg_M) : q_X12_wig__4 x2 s6 = wg_sa 295 s6 1 ((43 : Int32) + (s6 0 6)) x2 q_X12_wig__5 := rfl
theorem e_X12_wig__5 (s7 : wg_M) : q_X12_wig__5 s7 = wg_sa 295 s7 1 ((51 : Int32) + (s7 0 6)) (0 : Int32) q_X12_wig__6 := rfl
theorem e_X12_wig__6 (s8 : wg_M) : q_X12_wig__6 s8 = wg_sa 295 s8 1 ((59 : Int32) + (s8 0 6)) (0 : Int32) q_X12_wig__7 := rfl
theorem e_X12_wig__7 (s9 : wg_M) : q_X12_wig__7 s9 = wg_sa 295 s9 1 ((67 : Int32) + (s9 0 6)) (0 : Int32) q_X12_wig__8 := rfl
theorem e_X12_wig__8 (s10 : wg_M) : q_X12_wig__8 s10 = wg_st s10 0 6 ((s10 0 6) + (1 : Int32)) q_X12_wig__9 := rfl
theorem e_X12_wig__9 (s11 : wg_M) : q_X12_wig__9 s11 = wg_st s11 0 3 (0 : Int32) q_X12_wig__10 := rfl
theorem e_X12_wig__10 (s12 : wg_M) : q_X12_wig__10 s12 = some ((s12 0 6) - (1 : Int32), s12) := rfl
theorem e_X12_wig (x1 : Int32) (x2 : Int32) (σ : wg_M) : f_X12_wig 0 x1 x2 σ = wg_st σ 0 0 (0 : Int32) (q_X12_wig__1 x1 x2) := by
  unfold f_X12_wig
  simp only [sm_n1, sm_n4, sm_r0_1, sm_r0_9]
  rfl
def q_X12_judge__10 (s12 : wg_M) : Option (Int32 × wg_M) := some ((s12 0 7) - (1 : Int32), s12)
def q_X12_judge__9 (s11 : wg_M) : Option (Int32 × wg_M) := wg_st s11 0 3 (0 : Int32) q_X12_judge__10
def q_X12_judge__8 (s10 : wg_M) : Option (Int32 × wg_M) := wg_st s10 0 7 ((s10 0 7) + (1 : Int32)) q_X12_judge__9
def q_X12_judge__7 (x2 : Int32) (s9 : wg_M) : Option (Int32 × wg_M) := wg_sa 10 s9 5 (s9 0 7) x2 q_X12_judge__8
def q_X12_judge__6 (x2 : Int32) (s8 : wg_M) : Option (Int32 × wg_M) := wg_sa 295 s8 1 ((33 : Int32) + (s8 0 7)) (0 : Int32) (q_X12_judge__7 x2)
def q_X12_judge__5 (x2 : Int32) (s7 : wg_M) : Option (Int32 × wg_M) := wg_sa 295 s7 1 ((23 : Int32) + (s7 0 7)) (0 : Int32) (q_X12_judge__6 x2)
def q_X12_judge__4 (x2 : Int32) (s6 : wg_M) : Option (Int32 × wg_M) := wg_sa 295 s6 1 ((13 : Int32) + (s6 0 7)) (0 : Int32) (q_X12_judge__5 x2)
def q_X12_judge__3 (x1 : Int32) (x2 : Int32) (v4 : Int32) (s5 : wg_M) : Option (Int32 × wg_M) := if v4 = 0 then (some ((-1 : Int32), s5)) else (if (s5 0 7) = (10 : Int32) then (some ((-1 : Int32), s5)) else (wg_sa 295 s5 1 ((3 : Int32) + (s5 0 7)) x1 (q_X12_judge__4 x2)))
def q_X12_judge__2 (x1 : Int32) (x2 : Int32) (v2 : Int32) (s3 : wg_M) : Option (Int32 × wg_M) := if v2 = 0 then (some ((-1 : Int32), s3)) else (wg_bd (f_X12_isIn 0 x2 (-9 : Int32) (9 : Int32) s3) (q_X12_judge__3 x1 x2))
def q_X12_judge__1 (x1 : Int32) (x2 : Int32) (s1 : wg_M) : Option (Int32 × wg_M) := wg_bd (f_X12_isIn 0 x1 (0 : Int32) (120 : Int32) s1) (q_X12_judge__2 x1 x2)
theorem e_X12_judge__1 (x1 : Int32) (x2 : Int32) (s1 : wg_M) : q_X12_judge__1 x1 x2 s1 = wg_bd (f_X12_isIn 0 x1 (0 : Int32) (120 : Int32) s1) (q_X12_judge__2 x1 x2) := rfl
theorem e_X12_judge__2 (x1 : Int32) (x2 : Int32) (v2 : Int32) (s3 : wg_M) : q_X12_judge__2 x1 x2 v2 s3 = if v2 = 0 then (some ((-1 : Int32), s3)) else (wg_bd (f_X12_isIn 0 x2 (-9 : Int32) (9 : Int32) s3) (q_X12_judge__3 x1 x2)) := rfl
theorem e_X12_judge__3 (x1 : Int32) (x2 : Int32) (v4 : Int32) (s5 : wg_M) : q_X12_judge__3 x1 x2 v4 s5 = if v4 = 0 then (some ((-1 : Int32), s5)) else (if (s5 0 7) = (10 : Int32) then (some ((-1 : Int32), s5)) else (wg_sa 295 s5 1 ((3 : Int32) + (s5 0 7)) x1 (q_X12_judge__4 x2))) := rfl
theorem e_X12_judge__4 (x2 : Int32) (s6 : wg_M) : q_X12_judge__4 x2 s6 = wg_sa 295 s6 1 ((13 : Int32) + (s6 0 7)) (0 : Int32) (q_X12_judge__5 x2) := rfl
theorem e_X12_judge__5 (x2 : Int32) (s7 : wg_M) : q_X12_judge__5 x2 s7 = wg_sa 295 s7 1 ((23 : Int32) + (s7 0 7)) (0 : Int32) (q_X12_judge__6 x2) := rfl
theorem e_X12_judge__6 (x2 : Int32) (s8 : wg_M) : q_X12_judge__6 x2 s8 = wg_sa 295 s8 1 ((33 : Int32) + (s8 0 7)) (0 : Int32) (q_X12_judge__7 x2) := rfl
theorem e_X12_judge__7 (x2 : Int32) (s9 : wg_M) : q_X12_judge__7 x2 s9 = wg_sa 10 s9 5 (s9 0 7) x2 q_X12_judge__8 := rfl
theorem e_X12_judge__8 (s10 : wg_M) : q_X12_judge__8 s10 = wg_st s10 0 7 ((s10 0 7) + (1 : Int32)) q_X12_judge__9 := rfl
theorem e_X12_judge__9 (s11 : wg_M) : q_X12_judge__9 s11 = wg_st s11 0 3 (0 : Int32) q_X12_judge__10 := rfl
theorem e_X12_judge__10 (s12 : wg_M) : q_X12_judge__10 s12 = some ((s12 0 7) - (1 : Int32), s12) := rfl
theorem e_X12_judge (x1 : Int32) (x2 : Int32) (σ : wg_M) : f_X12_judge 0 x1 x2 σ = wg_st σ 0 0 (0 : Int32) (q_X12_judge__1 x1 x2) := by
  unfold f_X12_judge
  simp only [sm_n1, sm_n5, sm_r0_1, sm_r0_10]
  rfl
def q_X12_trial__9 (s11 : wg_M) : Option (Int32 × wg_M) := some ((s11 0 8) - (1 : Int32), s11)
def q_X12_trial__8 (s10 : wg_M) : Option (Int32 × wg_M) := wg_st s10 0 3 (0 : Int32) q_X12_trial__9
def q_X12_trial__7 (s9 : wg_M) : Option (Int32 × wg_M) := wg_st s9 0 8 ((s9 0 8) + (1 : Int32)) q_X12_trial__8
def q_X12_trial__6 (s8 : wg_M) : Option (Int32 × wg_M) := wg_sa 295 s8 1 ((281 : Int32) + (s8 0 8)) (0 : Int32) q_X12_trial__7
def q_X12_trial__5 (s7 : wg_M) : Option (Int32 × wg_M) := wg_sa 295 s7 1 ((267 : Int32) + (s7 0 8)) (0 : Int32) q_X12_trial__6
def q_X12_trial__4 (x2 : Int32) (s6 : wg_M) : Option (Int32 × wg_M) := wg_sa 14 s6 7 (s6 0 8) x2 q_X12_trial__5
def q_X12_trial__3 (x1 : Int32) (x2 : Int32) (v4 : Int32) (s5 : wg_M) : Option (Int32 × wg_M) := if v4 = 0 then (some ((-1 : Int32), s5)) else (if (s5 0 8) = (14 : Int32) then (some ((-1 : Int32), s5)) else (wg_sa 14 s5 6 (s5 0 8) x1 (q_X12_trial__4 x2)))
def q_X12_trial__2 (x1 : Int32) (x2 : Int32) (v2 : Int32) (s3 : wg_M) : Option (Int32 × wg_M) := if v2 = 0 then (some ((-1 : Int32), s3)) else (wg_bd (f_X12_isIn 0 x2 (-99 : Int32) (99 : Int32) s3) (q_X12_trial__3 x1 x2))
def q_X12_trial__1 (x1 : Int32) (x2 : Int32) (s1 : wg_M) : Option (Int32 × wg_M) := wg_bd (f_X12_isIn 0 x1 (0 : Int32) (7 : Int32) s1) (q_X12_trial__2 x1 x2)
theorem e_X12_trial__1 (x1 : Int32) (x2 : Int32) (s1 : wg_M) : q_X12_trial__1 x1 x2 s1 = wg_bd (f_X12_isIn 0 x1 (0 : Int32) (7 : Int32) s1) (q_X12_trial__2 x1 x2) := rfl
theorem e_X12_trial__2 (x1 : Int32) (x2 : Int32) (v2 : Int32) (s3 : wg_M) : q_X12_trial__2 x1 x2 v2 s3 = if v2 = 0 then (some ((-1 : Int32), s3)) else (wg_bd (f_X12_isIn 0 x2 (-99 : Int32) (99 : Int32) s3) (q_X12_trial__3 x1 x2)) := rfl
theorem e_X12_trial__3 (x1 : Int32) (x2 : Int32) (v4 : Int32) (s5 : wg_M) : q_X12_trial__3 x1 x2 v4 s5 = if v4 = 0 then (some ((-1 : Int32), s5)) else (if (s5 0 8) = (14 : Int32) then (some ((-1 : Int32), s5)) else (wg_sa 14 s5 6 (s5 0 8) x1 (q_X12_trial__4 x2))) := rfl
theorem e_X12_trial__4 (x2 : Int32) (s6 : wg_M) : q_X12_trial__4 x2 s6 = wg_sa 14 s6 7 (s6 0 8) x2 q_X12_trial__5 := rfl
theorem e_X12_trial__5 (s7 : wg_M) : q_X12_trial__5 s7 = wg_sa 295 s7 1 ((267 : Int32) + (s7 0 8)) (0 : Int32) q_X12_trial__6 := rfl
theorem e_X12_trial__6 (s8 : wg_M) : q_X12_trial__6 s8 = wg_sa 295 s8 1 ((281 : Int32) + (s8 0 8)) (0 : Int32) q_X12_trial__7 := rfl
theorem e_X12_trial__7 (s9 : wg_M) : q_X12_trial__7 s9 = wg_st s9 0 8 ((s9 0 8) + (1 : Int32)) q_X12_trial__8 := rfl
theorem e_X12_trial__8 (s10 : wg_M) : q_X12_trial__8 s10 = wg_st s10 0 3 (0 : Int32) q_X12_trial__9 := rfl
theorem e_X12_trial__9 (s11 : wg_M) : q_X12_trial__9 s11 = some ((s11 0 8) - (1 : Int32), s11) := rfl
theorem e_X12_trial (x1 : Int32) (x2 : Int32) (σ : wg_M) : f_X12_trial 0 x1 x2 σ = wg_st σ 0 0 (0 : Int32) (q_X12_trial__1 x1 x2) := by
  unfold f_X12_trial
  simp only [sm_n1, sm_n6, sm_n7, sm_r0_1, sm_r0_11, sm_r0_12]
  rfl
def q_X12_rule__9 (s12 : wg_M) (v13 : Int32) : Option (Int32 × wg_M) := some (v13, s12)
def q_X12_rule__8 (x1 : Int32) (s12 : wg_M) : Option (Int32 × wg_M) := wg_ga 295 (s12 1) ((67 : Int32) + x1) (q_X12_rule__9 s12)
def q_X12_rule__7 (x1 : Int32) (_u7 : Int32) (s11 : wg_M) : Option (Int32 × wg_M) := wg_st s11 0 3 (0 : Int32) (q_X12_rule__8 x1)
def q_X12_rule__6 (x1 : Int32) (x2 : Int32) (x3 : Int32) (x4 : Int32) (s9 : wg_M) (v10 : Int32) : Option (Int32 × wg_M) := if v10 = (8 : Int32) then (some ((-1 : Int32), s9)) else (wg_bd (f_X12_comesRule 0 x1 x2 x3 x4 s9) (q_X12_rule__7 x1))
def q_X12_rule__5 (x1 : Int32) (x2 : Int32) (x3 : Int32) (x4 : Int32) (v8 : Int32) (s9 : wg_M) : Option (Int32 × wg_M) := if v8 = 0 then (some ((-1 : Int32), s9)) else (wg_ga 295 (s9 1) ((67 : Int32) + x1) (q_X12_rule__6 x1 x2 x3 x4 s9))
def q_X12_rule__4 (x1 : Int32) (x2 : Int32) (x3 : Int32) (x4 : Int32) (v6 : Int32) (s7 : wg_M) : Option (Int32 × wg_M) := if v6 = 0 then (some ((-1 : Int32), s7)) else (wg_bd (f_X12_isIn 0 x4 (1 : Int32) (99 : Int32) s7) (q_X12_rule__5 x1 x2 x3 x4))
def q_X12_rule__3 (x1 : Int32) (x2 : Int32) (x3 : Int32) (x4 : Int32) (v4 : Int32) (s5 : wg_M) : Option (Int32 × wg_M) := if v4 = 0 then (some ((-1 : Int32), s5)) else (wg_bd (f_X12_isIn 0 x3 (-9 : Int32) (9 : Int32) s5) (q_X12_rule__4 x1 x2 x3 x4))
def q_X12_rule__2 (x1 : Int32) (x2 : Int32) (x3 : Int32) (x4 : Int32) (v2 : Int32) (s3 : wg_M) : Option (Int32 × wg_M) := if v2 = 0 then (some ((-1 : Int32), s3)) else (wg_bd (f_X12_isIn 0 x2 (0 : Int32) (7 : Int32) s3) (q_X12_rule__3 x1 x2 x3 x4))
def q_X12_rule__1 (x1 : Int32) (x2 : Int32) (x3 : Int32) (x4 : Int32) (s1 : wg_M) : Option (Int32 × wg_M) := wg_bd (f_X12_isWig 0 x1 s1) (q_X12_rule__2 x1 x2 x3 x4)
theorem e_X12_rule__1 (x1 : Int32) (x2 : Int32) (x3 : Int32) (x4 : Int32) (s1 : wg_M) : q_X12_rule__1 x1 x2 x3 x4 s1 = wg_bd (f_X12_isWig 0 x1 s1) (q_X12_rule__2 x1 x2 x3 x4) := rfl
theorem e_X12_rule__2 (x1 : Int32) (x2 : Int32) (x3 : Int32) (x4 : Int32) (v2 : Int32) (s3 : wg_M) : q_X12_rule__2 x1 x2 x3 x4 v2 s3 = if v2 = 0 then (some ((-1 : Int32), s3)) else (wg_bd (f_X12_isIn 0 x2 (0 : Int32) (7 : Int32) s3) (q_X12_rule__3 x1 x2 x3 x4)) := rfl
theorem e_X12_rule__3 (x1 : Int32) (x2 : Int32) (x3 : Int32) (x4 : Int32) (v4 : Int32) (s5 : wg_M) : q_X12_rule__3 x1 x2 x3 x4 v4 s5 = if v4 = 0 then (some ((-1 : Int32), s5)) else (wg_bd (f_X12_isIn 0 x3 (-9 : Int32) (9 : Int32) s5) (q_X12_rule__4 x1 x2 x3 x4)) := rfl
theorem e_X12_rule__4 (x1 : Int32) (x2 : Int32) (x3 : Int32) (x4 : Int32) (v6 : Int32) (s7 : wg_M) : q_X12_rule__4 x1 x2 x3 x4 v6 s7 = if v6 = 0 then (some ((-1 : Int32), s7)) else (wg_bd (f_X12_isIn 0 x4 (1 : Int32) (99 : Int32) s7) (q_X12_rule__5 x1 x2 x3 x4)) := rfl
theorem e_X12_rule__5 (x1 : Int32) (x2 : Int32) (x3 : Int32) (x4 : Int32) (v8 : Int32) (s9 : wg_M) : q_X12_rule__5 x1 x2 x3 x4 v8 s9 = if v8 = 0 then (some ((-1 : Int32), s9)) else (wg_ga 295 (s9 1) ((67 : Int32) + x1) (q_X12_rule__6 x1 x2 x3 x4 s9)) := rfl
theorem e_X12_rule__6 (x1 : Int32) (x2 : Int32) (x3 : Int32) (x4 : Int32) (s9 : wg_M) (v10 : Int32) : q_X12_rule__6 x1 x2 x3 x4 s9 v10 = if v10 = (8 : Int32) then (some ((-1 : Int32), s9)) else (wg_bd (f_X12_comesRule 0 x1 x2 x3 x4 s9) (q_X12_rule__7 x1)) := rfl
theorem e_X12_rule__7 (x1 : Int32) (_u7 : Int32) (s11 : wg_M) : q_X12_rule__7 x1 _u7 s11 = wg_st s11 0 3 (0 : Int32) (q_X12_rule__8 x1) := rfl
theorem e_X12_rule__8 (x1 : Int32) (s12 : wg_M) : q_X12_rule__8 x1 s12 = wg_ga 295 (s12 1) ((67 : Int32) + x1) (q_X12_rule__9 s12) := rfl
theorem e_X12_rule__9 (s12 : wg_M) (v13 : Int32) : q_X12_rule__9 s12 v13 = some (v13, s12) := rfl
theorem e_X12_rule (x1 : Int32) (x2 : Int32) (x3 : Int32) (x4 : Int32) (σ : wg_M) : f_X12_rule 0 x1 x2 x3 x4 σ = wg_st σ 0 0 (0 : Int32) (q_X12_rule__1 x1 x2 x3 x4) := by
  unfold f_X12_rule
  simp only [sm_n1, sm_r0_1]
  rfl
def q_X12_canSet__8 (v3 : Int32) (s4 : wg_M) : Option (Int32 × wg_M) := if v3 = 0 then (some ((0 : Int32), s4)) else (some ((1 : Int32), s4))
def q_X12_canSet__7 (x3 : Int32) (v1 : Int32) (s2 : wg_M) : Option (Int32 × wg_M) := if v1 = 0 then (some ((0 : Int32), s2)) else (wg_bd (f_X12_isIn 0 x3 (-99 : Int32) (99 : Int32) s2) q_X12_canSet__8)
def q_X12_canSet__6 (v7 : Int32) (s8 : wg_M) : Option (Int32 × wg_M) := if v7 = 0 then (some ((0 : Int32), s8)) else (some ((1 : Int32), s8))
def q_X12_canSet__5 (x3 : Int32) (v5 : Int32) (s6 : wg_M) : Option (Int32 × wg_M) := if v5 = 0 then (some ((0 : Int32), s6)) else (wg_bd (f_X12_isIn 0 x3 (0 : Int32) (99 : Int32) s6) q_X12_canSet__6)
def q_X12_canSet__4 (v11 : Int32) (s12 : wg_M) : Option (Int32 × wg_M) := if v11 = 0 then (some ((0 : Int32), s12)) else (some ((1 : Int32), s12))
def q_X12_canSet__3 (x3 : Int32) (v9 : Int32) (s10 : wg_M) : Option (Int32 × wg_M) := if v9 = 0 then (some ((0 : Int32), s10)) else (wg_bd (f_X12_isIn 0 x3 (-9 : Int32) (9 : Int32) s10) q_X12_canSet__4)
def q_X12_canSet__2 (v15 : Int32) (s16 : wg_M) : Option (Int32 × wg_M) := if v15 = 0 then (some ((0 : Int32), s16)) else (some ((1 : Int32), s16))
def q_X12_canSet__1 (x3 : Int32) (v13 : Int32) (s14 : wg_M) : Option (Int32 × wg_M) := if v13 = 0 then (some ((0 : Int32), s14)) else (wg_bd (f_X12_isIn 0 x3 (0 : Int32) (120 : Int32) s14) q_X12_canSet__2)
theorem e_X12_canSet__1 (x3 : Int32) (v13 : Int32) (s14 : wg_M) : q_X12_canSet__1 x3 v13 s14 = if v13 = 0 then (some ((0 : Int32), s14)) else (wg_bd (f_X12_isIn 0 x3 (0 : Int32) (120 : Int32) s14) q_X12_canSet__2) := rfl
theorem e_X12_canSet__2 (v15 : Int32) (s16 : wg_M) : q_X12_canSet__2 v15 s16 = if v15 = 0 then (some ((0 : Int32), s16)) else (some ((1 : Int32), s16)) := rfl
theorem e_X12_canSet__3 (x3 : Int32) (v9 : Int32) (s10 : wg_M) : q_X12_canSet__3 x3 v9 s10 = if v9 = 0 then (some ((0 : Int32), s10)) else (wg_bd (f_X12_isIn 0 x3 (-9 : Int32) (9 : Int32) s10) q_X12_canSet__4) := rfl
theorem e_X12_canSet__4 (v11 : Int32) (s12 : wg_M) : q_X12_canSet__4 v11 s12 = if v11 = 0 then (some ((0 : Int32), s12)) else (some ((1 : Int32), s12)) := rfl
theorem e_X12_canSet__5 (x3 : Int32) (v5 : Int32) (s6 : wg_M) : q_X12_canSet__5 x3 v5 s6 = if v5 = 0 then (some ((0 : Int32), s6)) else (wg_bd (f_X12_isIn 0 x3 (0 : Int32) (99 : Int32) s6) q_X12_canSet__6) := rfl
theorem e_X12_canSet__6 (v7 : Int32) (s8 : wg_M) : q_X12_canSet__6 v7 s8 = if v7 = 0 then (some ((0 : Int32), s8)) else (some ((1 : Int32), s8)) := rfl
theorem e_X12_canSet__7 (x3 : Int32) (v1 : Int32) (s2 : wg_M) : q_X12_canSet__7 x3 v1 s2 = if v1 = 0 then (some ((0 : Int32), s2)) else (wg_bd (f_X12_isIn 0 x3 (-99 : Int32) (99 : Int32) s2) q_X12_canSet__8) := rfl
theorem e_X12_canSet__8 (v3 : Int32) (s4 : wg_M) : q_X12_canSet__8 v3 s4 = if v3 = 0 then (some ((0 : Int32), s4)) else (some ((1 : Int32), s4)) := rfl
theorem e_X12_canSet (x1 : Int32) (x2 : Int32) (x3 : Int32) (σ : wg_M) : f_X12_canSet 0 x1 x2 x3 σ = if x1 = 0 then (wg_bd (f_X12_isJudge 0 x2 σ) (q_X12_canSet__1 x3)) else (if x1 = (1 : Int32) then (wg_bd (f_X12_isJudge 0 x2 σ) (q_X12_canSet__3 x3)) else (if x1 = (2 : Int32) then (wg_bd (f_X12_isWig 0 x2 σ) (q_X12_canSet__5 x3)) else (if x1 = (3 : Int32) then (wg_bd (f_X12_isTrial 0 x2 σ) (q_X12_canSet__7 x3)) else (some ((0 : Int32), σ))))) := rfl
def q_X12_set_69__1 (s1 : wg_M) : Option (Int32 × wg_M) := some ((1 : Int32), s1)
theorem e_X12_set_69__1 (s1 : wg_M) : q_X12_set_69__1 s1 = some ((1 : Int32), s1) := rfl
theorem e_X12_set_69 (σ : wg_M) : f_X12_set_69 0 σ = wg_st σ 0 3 (0 : Int32) q_X12_set_69__1 := rfl
def q_X12_set_57__1 (s1 : wg_M) : Option (Int32 × wg_M) := f_X12_set_69  0 s1
theorem e_X12_set_57__1 (s1 : wg_M) : q_X12_set_57__1 s1 = f_X12_set_69  0 s1 := rfl
theorem e_X12_set_57 (x1 : Int32) (x2 : Int32) (x3 : Int32) (σ : wg_M) : f_X12_set_57 0 x1 x2 x3 σ = if x1 = (3 : Int32) then (wg_sa 14 σ 7 x2 x3 q_X12_set_57__1) else (f_X12_set_69  0 σ) := by
  unfold f_X12_set_57
  simp only [sm_n7, sm_r0_12]
  rfl
def q_X12_set_42__1 (x1 : Int32) (x2 : Int32) (x3 : Int32) (s1 : wg_M) : Option (Int32 × wg_M) := f_X12_set_57  0 x1 x2 x3 s1
theorem e_X12_set_42__1 (x1 : Int32) (x2 : Int32) (x3 : Int32) (s1 : wg_M) : q_X12_set_42__1 x1 x2 x3 s1 = f_X12_set_57  0 x1 x2 x3 s1 := rfl
theorem e_X12_set_42 (x1 : Int32) (x2 : Int32) (x3 : Int32) (σ : wg_M) : f_X12_set_42 0 x1 x2 x3 σ = if x1 = (2 : Int32) then (wg_sa 295 σ 1 ((43 : Int32) + x2) x3 (q_X12_set_42__1 x1 x2 x3)) else (f_X12_set_57  0 x1 x2 x3 σ) := by
  unfold f_X12_set_42
  simp only [sm_n1, sm_r0_1]
  rfl
def q_X12_set_30__1 (x1 : Int32) (x2 : Int32) (x3 : Int32) (s1 : wg_M) : Option (Int32 × wg_M) := f_X12_set_42  0 x1 x2 x3 s1
theorem e_X12_set_30__1 (x1 : Int32) (x2 : Int32) (x3 : Int32) (s1 : wg_M) : q_X12_set_30__1 x1 x2 x3 s1 = f_X12_set_42  0 x1 x2 x3 s1 := rfl
theorem e_X12_set_30 (x1 : Int32) (x2 : Int32) (x3 : Int32) (σ : wg_M) : f_X12_set_30 0 x1 x2 x3 σ = if x1 = (1 : Int32) then (wg_sa 10 σ 5 x2 x3 (q_X12_set_30__1 x1 x2 x3)) else (f_X12_set_42  0 x1 x2 x3 σ) := by
  unfold f_X12_set_30
  simp only [sm_n5, sm_r0_10]
  rfl
def q_X12_set__3 (x1 : Int32) (x2 : Int32) (x3 : Int32) (s4 : wg_M) : Option (Int32 × wg_M) := f_X12_set_30  0 x1 x2 x3 s4
def q_X12_set__2 (x1 : Int32) (x2 : Int32) (x3 : Int32) (v2 : Int32) (s3 : wg_M) : Option (Int32 × wg_M) := if v2 = 0 then (some ((0 : Int32), s3)) else (if x1 = 0 then (wg_sa 295 s3 1 ((3 : Int32) + x2) x3 (q_X12_set__3 x1 x2 x3)) else (f_X12_set_30  0 x1 x2 x3 s3))
def q_X12_set__1 (x1 : Int32) (x2 : Int32) (x3 : Int32) (s1 : wg_M) : Option (Int32 × wg_M) := wg_bd (f_X12_canSet 0 x1 x2 x3 s1) (q_X12_set__2 x1 x2 x3)
theorem e_X12_set__1 (x1 : Int32) (x2 : Int32) (x3 : Int32) (s1 : wg_M) : q_X12_set__1 x1 x2 x3 s1 = wg_bd (f_X12_canSet 0 x1 x2 x3 s1) (q_X12_set__2 x1 x2 x3) := rfl
theorem e_X12_set__2 (x1 : Int32) (x2 : Int32) (x3 : Int32) (v2 : Int32) (s3 : wg_M) : q_X12_set__2 x1 x2 x3 v2 s3 = if v2 = 0 then (some ((0 : Int32), s3)) else (if x1 = 0 then (wg_sa 295 s3 1 ((3 : Int32) + x2) x3 (q_X12_set__3 x1 x2 x3)) else (f_X12_set_30  0 x1 x2 x3 s3)) := rfl
theorem e_X12_set__3 (x1 : Int32) (x2 : Int32) (x3 : Int32) (s4 : wg_M) : q_X12_set__3 x1 x2 x3 s4 = f_X12_set_30  0 x1 x2 x3 s4 := rfl
theorem e_X12_set (x1 : Int32) (x2 : Int32) (x3 : Int32) (σ : wg_M) : f_X12_set 0 x1 x2 x3 σ = wg_st σ 0 0 (0 : Int32) (q_X12_set__1 x1 x2 x3) := by
  unfold f_X12_set
  simp only [sm_n1, sm_r0_1]
  rfl
def q_X12_types_3__3 (n : Nat) (x1 : Int32) (s2 : wg_M) (v3 : Int32) : Option (Int32 × wg_M) := f_X12_types_3  n 0 x1 v3 s2
def q_X12_types_3__2 (n : Nat) (x1 : Int32) (x2 : Int32) (s2 : wg_M) : Option (Int32 × wg_M) := wg_let (x2 + (-8 : Int32)) (q_X12_types_3__3 n x1 s2)
def q_X12_types_3__1 (n : Nat) (x1 : Int32) (x2 : Int32) (s1 : wg_M) : Option (Int32 × wg_M) := wg_st s1 0 15 ((s1 0 15) + (1 : Int32)) (q_X12_types_3__2 n x1 x2)
theorem e_X12_types_3__1 (n : Nat) (x1 : Int32) (x2 : Int32) (s1 : wg_M) : q_X12_types_3__1 n x1 x2 s1 = wg_st s1 0 15 ((s1 0 15) + (1 : Int32)) (q_X12_types_3__2 n x1 x2) := rfl
theorem e_X12_types_3__2 (n : Nat) (x1 : Int32) (x2 : Int32) (s2 : wg_M) : q_X12_types_3__2 n x1 x2 s2 = wg_let (x2 + (-8 : Int32)) (q_X12_types_3__3 n x1 s2) := rfl
theorem e_X12_types_3__3 (n : Nat) (x1 : Int32) (s2 : wg_M) (v3 : Int32) : q_X12_types_3__3 n x1 s2 v3 = f_X12_types_3  n 0 x1 v3 s2 := rfl
theorem e_X12_types_3 (n : Nat) (x1 : Int32) (x2 : Int32) (σ : wg_M) : f_X12_types_3 (n + 1) 0 x1 x2 σ = if x2 < 0 then (some (0, σ)) else (wg_sa 400 σ 9 (σ 0 15) ((x1 >>> (x2 &&& 31)) &&& (255 : Int32)) (q_X12_types_3__1 n x1 x2)) := by
  rw [f_X12_types_3]
  simp only [sm_n9, sm_r0_14]
  rfl
theorem e_X12_types (x1 : Int32) (σ : wg_M) : f_X12_types 0 x1 σ = f_X12_types_3  wg_N 0 x1 (24 : Int32) σ := rfl
def q_X12_feed__6 (_u6 : Int32) (s6 : wg_M) : Option (Int32 × wg_M) := some (s6 0 15, s6)
def q_X12_feed__5 (x5 : Int32) (_u5 : Int32) (s5 : wg_M) : Option (Int32 × wg_M) := wg_bd (f_X12_types 0 x5 s5) q_X12_feed__6
def q_X12_feed__4 (x4 : Int32) (x5 : Int32) (_u4 : Int32) (s4 : wg_M) : Option (Int32 × wg_M) := wg_bd (f_X12_types 0 x4 s4) (q_X12_feed__5 x5)
def q_X12_feed__3 (x3 : Int32) (x4 : Int32) (x5 : Int32) (_u3 : Int32) (s3 : wg_M) : Option (Int32 × wg_M) := wg_bd (f_X12_types 0 x3 s3) (q_X12_feed__4 x4 x5)
def q_X12_feed__2 (x2 : Int32) (x3 : Int32) (x4 : Int32) (x5 : Int32) (_u2 : Int32) (s2 : wg_M) : Option (Int32 × wg_M) := wg_bd (f_X12_types 0 x2 s2) (q_X12_feed__3 x3 x4 x5)
def q_X12_feed__1 (x1 : Int32) (x2 : Int32) (x3 : Int32) (x4 : Int32) (x5 : Int32) (s1 : wg_M) : Option (Int32 × wg_M) := if (s1 0 15) ≤ (380 : Int32) then (wg_bd (f_X12_types 0 x1 s1) (q_X12_feed__2 x2 x3 x4 x5)) else (some ((-1 : Int32), s1))
theorem e_X12_feed__1 (x1 : Int32) (x2 : Int32) (x3 : Int32) (x4 : Int32) (x5 : Int32) (s1 : wg_M) : q_X12_feed__1 x1 x2 x3 x4 x5 s1 = if (s1 0 15) ≤ (380 : Int32) then (wg_bd (f_X12_types 0 x1 s1) (q_X12_feed__2 x2 x3 x4 x5)) else (some ((-1 : Int32), s1)) := rfl
theorem e_X12_feed__2 (x2 : Int32) (x3 : Int32) (x4 : Int32) (x5 : Int32) (_u2 : Int32) (s2 : wg_M) : q_X12_feed__2 x2 x3 x4 x5 _u2 s2 = wg_bd (f_X12_types 0 x2 s2) (q_X12_feed__3 x3 x4 x5) := rfl
theorem e_X12_feed__3 (x3 : Int32) (x4 : Int32) (x5 : Int32) (_u3 : Int32) (s3 : wg_M) : q_X12_feed__3 x3 x4 x5 _u3 s3 = wg_bd (f_X12_types 0 x3 s3) (q_X12_feed__4 x4 x5) := rfl
theorem e_X12_feed__4 (x4 : Int32) (x5 : Int32) (_u4 : Int32) (s4 : wg_M) : q_X12_feed__4 x4 x5 _u4 s4 = wg_bd (f_X12_types 0 x4 s4) (q_X12_feed__5 x5) := rfl
theorem e_X12_feed__5 (x5 : Int32) (_u5 : Int32) (s5 : wg_M) : q_X12_feed__5 x5 _u5 s5 = wg_bd (f_X12_types 0 x5 s5) q_X12_feed__6 := rfl
theorem e_X12_feed__6 (_u6 : Int32) (s6 : wg_M) : q_X12_feed__6 _u6 s6 = some (s6 0 15, s6) := rfl
theorem e_X12_feed (x1 : Int32) (x2 : Int32) (x3 : Int32) (x4 : Int32) (x5 : Int32) (σ : wg_M) : f_X12_feed 0 x1 x2 x3 x4 x5 σ = wg_st σ 0 0 (0 : Int32) (q_X12_feed__1 x1 x2 x3 x4 x5) := rfl
def q_X12_end__3 (s4 : wg_M) : Option (Int32 × wg_M) := some ((1 : Int32), s4)
def q_X12_end__2 (x1 : Int32) (v2 : Int32) (s3 : wg_M) : Option (Int32 × wg_M) := if v2 = 0 then (some ((0 : Int32), s3)) else (wg_st s3 0 15 x1 q_X12_end__3)
def q_X12_end__1 (x1 : Int32) (s1 : wg_M) : Option (Int32 × wg_M) := wg_bd (f_X12_isIn 0 x1 (0 : Int32) (s1 0 15) s1) (q_X12_end__2 x1)
theorem e_X12_end__1 (x1 : Int32) (s1 : wg_M) : q_X12_end__1 x1 s1 = wg_bd (f_X12_isIn 0 x1 (0 : Int32) (s1 0 15) s1) (q_X12_end__2 x1) := rfl
theorem e_X12_end__2 (x1 : Int32) (v2 : Int32) (s3 : wg_M) : q_X12_end__2 x1 v2 s3 = if v2 = 0 then (some ((0 : Int32), s3)) else (wg_st s3 0 15 x1 q_X12_end__3) := rfl
theorem e_X12_end__3 (s4 : wg_M) : q_X12_end__3 s4 = some ((1 : Int32), s4) := rfl
theorem e_X12_end (x1 : Int32) (σ : wg_M) : f_X12_end 0 x1 σ = wg_st σ 0 0 (0 : Int32) (q_X12_end__1 x1) := rfl
def q_X12_raw__1 (σ : wg_M) (v1 : Int32) : Option (Int32 × wg_M) := some (v1, σ)
theorem e_X12_raw__1 (σ : wg_M) (v1 : Int32) : q_X12_raw__1 σ v1 = some (v1, σ) := rfl
theorem e_X12_raw (x1 : Int32) (σ : wg_M) : f_X12_raw 0 x1 σ = if (σ 0 15) ≤ x1 then (some ((-1 : Int32), σ)) else (wg_ga 400 (σ 9) x1 (q_X12_raw__1 σ)) := by
  unfold f_X12_raw
  simp only [sm_n9, sm_r0_14]
  rfl
theorem e_X12_isLetter_24 (σ : wg_M) : f_X12_isLetter_24 σ = some ((1 : Int32), σ) := rfl
def q_X12_isLetter__2 (v3 : Int32) (s4 : wg_M) : Option (Int32 × wg_M) := if v3 = 0 then (some ((0 : Int32), s4)) else (f_X12_isLetter_24   s4)
def q_X12_isLetter__1 (x1 : Int32) (v1 : Int32) (s2 : wg_M) : Option (Int32 × wg_M) := if v1 = 0 then (wg_bd (f_X12_isIn 0 x1 (65 : Int32) (90 : Int32) s2) q_X12_isLetter__2) else (f_X12_isLetter_24   s2)
theorem e_X12_isLetter__1 (x1 : Int32) (v1 : Int32) (s2 : wg_M) : q_X12_isLetter__1 x1 v1 s2 = if v1 = 0 then (wg_bd (f_X12_isIn 0 x1 (65 : Int32) (90 : Int32) s2) q_X12_isLetter__2) else (f_X12_isLetter_24   s2) := rfl
theorem e_X12_isLetter__2 (v3 : Int32) (s4 : wg_M) : q_X12_isLetter__2 v3 s4 = if v3 = 0 then (some ((0 : Int32), s4)) else (f_X12_isLetter_24   s4) := rfl
theorem e_X12_isLetter (x1 : Int32) (σ : wg_M) : f_X12_isLetter 0 x1 σ = wg_bd (f_X12_isIn 0 x1 (97 : Int32) (122 : Int32) σ) (q_X12_isLetter__1 x1) := rfl
def q_X12_isDigit__1 (v1 : Int32) (s2 : wg_M) : Option (Int32 × wg_M) := wg_bz v1 (some (v1, s2))
theorem e_X12_isDigit__1 (v1 : Int32) (s2 : wg_M) : q_X12_isDigit__1 v1 s2 = wg_bz v1 (some (v1, s2)) := rfl
theorem e_X12_isDigit (x1 : Int32) (σ : wg_M) : f_X12_isDigit 0 x1 σ = wg_bd (f_X12_isIn 0 x1 (48 : Int32) (57 : Int32) σ) q_X12_isDigit__1 := rfl
theorem e_X12_isMarkSign_60 (σ : wg_M) : f_X12_isMarkSign_60 σ = some ((1 : Int32), σ) := rfl
theorem e_X12_isMarkSign (x1 : Int32) (σ : wg_M) : f_X12_isMarkSign 0 x1 σ = if x1 = (59 : Int32) then (f_X12_isMarkSign_60   σ) else (if x1 = (43 : Int32) then (f_X12_isMarkSign_60   σ) else (if x1 = (45 : Int32) then (f_X12_isMarkSign_60   σ) else (if x1 = (42 : Int32) then (f_X12_isMarkSign_60   σ) else (if x1 = (47 : Int32) then (f_X12_isMarkSign_60   σ) else (if x1 = (40 : Int32) then (f_X12_isMarkSign_60   σ) else (if x1 = (41 : Int32) then (f_X12_isMarkSign_60   σ) else (if x1 = (60 : Int32) then (f_X12_isMarkSign_60   σ) else (if x1 = (61 : Int32) then (f_X12_isMarkSign_60   σ) else (if x1 = (62 : Int32) then (f_X12_isMarkSign_60   σ) else (some ((0 : Int32), σ))))))))))) := rfl
def q_X12_wordAt_94__2 (k5 : Nat → Int32 → Int32 → Int32 → Int32 → wg_M → Option (Int32 × wg_M)) (n : Nat) (x1 : Int32) (x2 : Int32) (x3 : Int32) (σ : wg_M) (v2 : Int32) : Option (Int32 × wg_M) := f_X12_wordAt_94 k5 n 0 x1 x2 x3 v2 σ
def q_X12_wordAt_94__1 (k5 : Nat → Int32 → Int32 → Int32 → Int32 → wg_M → Option (Int32 × wg_M)) (n : Nat) (x1 : Int32) (x2 : Int32) (x3 : Int32) (x4 : Int32) (σ : wg_M) (v1 : Int32) : Option (Int32 × wg_M) := if v1 = (32 : Int32) then (k5 0 x1 x2 x3 x4 σ) else (wg_let (x4 + (1 : Int32)) (q_X12_wordAt_94__2 k5 n x1 x2 x3 σ))
theorem e_X12_wordAt_94__1 (k5 : Nat → Int32 → Int32 → Int32 → Int32 → wg_M → Option (Int32 × wg_M)) (n : Nat) (x1 : Int32) (x2 : Int32) (x3 : Int32) (x4 : Int32) (σ : wg_M) (v1 : Int32) : q_X12_wordAt_94__1 k5 n x1 x2 x3 x4 σ v1 = if v1 = (32 : Int32) then (k5 0 x1 x2 x3 x4 σ) else (wg_let (x4 + (1 : Int32)) (q_X12_wordAt_94__2 k5 n x1 x2 x3 σ)) := rfl
theorem e_X12_wordAt_94__2 (k5 : Nat → Int32 → Int32 → Int32 → Int32 → wg_M → Option (Int32 × wg_M)) (n : Nat) (x1 : Int32) (x2 : Int32) (x3 : Int32) (σ : wg_M) (v2 : Int32) : q_X12_wordAt_94__2 k5 n x1 x2 x3 σ v2 = f_X12_wordAt_94 k5 n 0 x1 x2 x3 v2 σ := rfl
theorem e_X12_wordAt_94 (k5 : Nat → Int32 → Int32 → Int32 → Int32 → wg_M → Option (Int32 × wg_M)) (n : Nat) (x1 : Int32) (x2 : Int32) (x3 : Int32) (x4 : Int32) (σ : wg_M) : f_X12_wordAt_94 k5 (n + 1) 0 x1 x2 x3 x4 σ = wg_ga 129 (σ 10) x4 (q_X12_wordAt_94__1 k5 n x1 x2 x3 x4 σ) := by
  rw [f_X12_wordAt_94]
  simp only [sm_n10, sm_r0_20]
  rfl
def q_X12_wordAt_88__1 (k5 : Nat → Int32 → Int32 → Int32 → Int32 → wg_M → Option (Int32 × wg_M)) (x1 : Int32) (x2 : Int32) (x3 : Int32) (σ : wg_M) (v1 : Int32) : Option (Int32 × wg_M) := f_X12_wordAt_94 k5 wg_N 0 x1 x2 x3 v1 σ
theorem e_X12_wordAt_88__1 (k5 : Nat → Int32 → Int32 → Int32 → Int32 → wg_M → Option (Int32 × wg_M)) (x1 : Int32) (x2 : Int32) (x3 : Int32) (σ : wg_M) (v1 : Int32) : q_X12_wordAt_88__1 k5 x1 x2 x3 σ v1 = f_X12_wordAt_94 k5 wg_N 0 x1 x2 x3 v1 σ := rfl
theorem e_X12_wordAt_88 (k5 : Nat → Int32 → Int32 → Int32 → Int32 → wg_M → Option (Int32 × wg_M)) (x1 : Int32) (x2 : Int32) (x3 : Int32) (x4 : Int32) (σ : wg_M) : f_X12_wordAt_88 k5 0 x1 x2 x3 x4 σ = wg_let (x4 + (1 : Int32)) (q_X12_wordAt_88__1 k5 x1 x2 x3 σ) := rfl
def q_X12_wordAt_61__1 (k5 : Nat → Int32 → Int32 → Int32 → Int32 → wg_M → Option (Int32 × wg_M)) (x1 : Int32) (x2 : Int32) (x3 : Int32) (x4 : Int32) (σ : wg_M) (v1 : Int32) : Option (Int32 × wg_M) := if v1 = (32 : Int32) then (some (x3, σ)) else (f_X12_wordAt_88 k5 0 x1 x2 x3 x4 σ)
theorem e_X12_wordAt_61__1 (k5 : Nat → Int32 → Int32 → Int32 → Int32 → wg_M → Option (Int32 × wg_M)) (x1 : Int32) (x2 : Int32) (x3 : Int32) (x4 : Int32) (σ : wg_M) (v1 : Int32) : q_X12_wordAt_61__1 k5 x1 x2 x3 x4 σ v1 = if v1 = (32 : Int32) then (some (x3, σ)) else (f_X12_wordAt_88 k5 0 x1 x2 x3 x4 σ) := rfl
theorem e_X12_wordAt_61 (k5 : Nat → Int32 → Int32 → Int32 → Int32 → wg_M → Option (Int32 × wg_M)) (x1 : Int32) (x2 : Int32) (x3 : Int32) (x4 : Int32) (x5 : Int32) (σ : wg_M) : f_X12_wordAt_61 k5 0 x1 x2 x3 x4 x5 σ = if (x1 + x5) = x2 then (wg_ga 129 (σ 10) ((x4 + (1 : Int32)) + x5) (q_X12_wordAt_61__1 k5 x1 x2 x3 x4 σ)) else (f_X12_wordAt_88 k5 0 x1 x2 x3 x4 σ) := by
  unfold f_X12_wordAt_61
  simp only [sm_n10, sm_r0_20]
  rfl
def q_X12_wordAt_20__3 (k5 : Nat → Int32 → Int32 → Int32 → Int32 → wg_M → Option (Int32 × wg_M)) (n : Nat) (x1 : Int32) (x2 : Int32) (x3 : Int32) (x4 : Int32) (σ : wg_M) (v3 : Int32) : Option (Int32 × wg_M) := f_X12_wordAt_20 k5 n 0 x1 x2 x3 x4 v3 σ
def q_X12_wordAt_20__2 (k5 : Nat → Int32 → Int32 → Int32 → Int32 → wg_M → Option (Int32 × wg_M)) (n : Nat) (x1 : Int32) (x2 : Int32) (x3 : Int32) (x4 : Int32) (x5 : Int32) (σ : wg_M) (v1 : Int32) (v2 : Int32) : Option (Int32 × wg_M) := if v1 = v2 then (wg_let (x5 + (1 : Int32)) (q_X12_wordAt_20__3 k5 n x1 x2 x3 x4 σ)) else (f_X12_wordAt_61 k5 0 x1 x2 x3 x4 x5 σ)
def q_X12_wordAt_20__1 (k5 : Nat → Int32 → Int32 → Int32 → Int32 → wg_M → Option (Int32 × wg_M)) (n : Nat) (x1 : Int32) (x2 : Int32) (x3 : Int32) (x4 : Int32) (x5 : Int32) (σ : wg_M) (v1 : Int32) : Option (Int32 × wg_M) := wg_ga 400 (σ 9) (x1 + x5) (q_X12_wordAt_20__2 k5 n x1 x2 x3 x4 x5 σ v1)
theorem e_X12_wordAt_20__1 (k5 : Nat → Int32 → Int32 → Int32 → Int32 → wg_M → Option (Int32 × wg_M)) (n : Nat) (x1 : Int32) (x2 : Int32) (x3 : Int32) (x4 : Int32) (x5 : Int32) (σ : wg_M) (v1 : Int32) : q_X12_wordAt_20__1 k5 n x1 x2 x3 x4 x5 σ v1 = wg_ga 400 (σ 9) (x1 + x5) (q_X12_wordAt_20__2 k5 n x1 x2 x3 x4 x5 σ v1) := rfl
theorem e_X12_wordAt_20__2 (k5 : Nat → Int32 → Int32 → Int32 → Int32 → wg_M → Option (Int32 × wg_M)) (n : Nat) (x1 : Int32) (x2 : Int32) (x3 : Int32) (x4 : Int32) (x5 : Int32) (σ : wg_M) (v1 : Int32) (v2 : Int32) : q_X12_wordAt_20__2 k5 n x1 x2 x3 x4 x5 σ v1 v2 = if v1 = v2 then (wg_let (x5 + (1 : Int32)) (q_X12_wordAt_20__3 k5 n x1 x2 x3 x4 σ)) else (f_X12_wordAt_61 k5 0 x1 x2 x3 x4 x5 σ) := rfl
theorem e_X12_wordAt_20__3 (k5 : Nat → Int32 → Int32 → Int32 → Int32 → wg_M → Option (Int32 × wg_M)) (n : Nat) (x1 : Int32) (x2 : Int32) (x3 : Int32) (x4 : Int32) (σ : wg_M) (v3 : Int32) : q_X12_wordAt_20__3 k5 n x1 x2 x3 x4 σ v3 = f_X12_wordAt_20 k5 n 0 x1 x2 x3 x4 v3 σ := rfl
theorem e_X12_wordAt_20 (k5 : Nat → Int32 → Int32 → Int32 → Int32 → wg_M → Option (Int32 × wg_M)) (n : Nat) (x1 : Int32) (x2 : Int32) (x3 : Int32) (x4 : Int32) (x5 : Int32) (σ : wg_M) : f_X12_wordAt_20 k5 (n + 1) 0 x1 x2 x3 x4 x5 σ = if x2 ≤ (x1 + x5) then (f_X12_wordAt_61 k5 0 x1 x2 x3 x4 x5 σ) else (wg_ga 129 (σ 10) ((x4 + (1 : Int32)) + x5) (q_X12_wordAt_20__1 k5 n x1 x2 x3 x4 x5 σ)) := by
  rw [f_X12_wordAt_20]
  simp only [sm_n9, sm_n10, sm_r0_14, sm_r0_20]
  rfl
def q_X12_wordAt_5__1 (n : Nat) (x1 : Int32) (x2 : Int32) (x4 : Int32) (σ : wg_M) (v1 : Int32) : Option (Int32 × wg_M) := f_X12_wordAt_20 (f_X12_wordAt_5  n) wg_N 0 x1 x2 v1 x4 (0 : Int32) σ
theorem e_X12_wordAt_5__1 (n : Nat) (x1 : Int32) (x2 : Int32) (x4 : Int32) (σ : wg_M) (v1 : Int32) : q_X12_wordAt_5__1 n x1 x2 x4 σ v1 = f_X12_wordAt_20 (f_X12_wordAt_5  n) wg_N 0 x1 x2 v1 x4 (0 : Int32) σ := rfl
theorem e_X12_wordAt_5 (n : Nat) (x1 : Int32) (x2 : Int32) (x3 : Int32) (x4 : Int32) (σ : wg_M) : f_X12_wordAt_5 (n + 1) 0 x1 x2 x3 x4 σ = if (128 : Int32) ≤ x4 then (some ((-1 : Int32), σ)) else (wg_let (x3 + (1 : Int32)) (q_X12_wordAt_5__1 n x1 x2 x4 σ)) := by
  rw [f_X12_wordAt_5]
  rfl
theorem e_X12_wordAt (x1 : Int32) (x2 : Int32) (σ : wg_M) : f_X12_wordAt 0 x1 x2 σ = f_X12_wordAt_5  wg_N 0 x1 x2 (-1 : Int32) (0 : Int32) σ := rfl
def q_X12_reads_26__1 (k0 : Nat → wg_M → Option (Int32 × wg_M)) (s1 : wg_M) : Option (Int32 × wg_M) := k0 0 s1
theorem e_X12_reads_26__1 (k0 : Nat → wg_M → Option (Int32 × wg_M)) (s1 : wg_M) : q_X12_reads_26__1 k0 s1 = k0 0 s1 := rfl
theorem e_X12_reads_26 (k0 : Nat → wg_M → Option (Int32 × wg_M)) (σ : wg_M) : f_X12_reads_26 k0 0 σ = wg_st σ 0 16 ((σ 0 16) + (1 : Int32)) (q_X12_reads_26__1 k0) := rfl
def q_X12_reads_223__2 (k171 : Nat → wg_M → Option (Int32 × wg_M)) (s2 : wg_M) : Option (Int32 × wg_M) := k171 0 s2
def q_X12_reads_223__1 (k171 : Nat → wg_M → Option (Int32 × wg_M)) (s1 : wg_M) : Option (Int32 × wg_M) := wg_st s1 0 16 ((s1 0 16) + (1 : Int32)) (q_X12_reads_223__2 k171)
theorem e_X12_reads_223__1 (k171 : Nat → wg_M → Option (Int32 × wg_M)) (s1 : wg_M) : q_X12_reads_223__1 k171 s1 = wg_st s1 0 16 ((s1 0 16) + (1 : Int32)) (q_X12_reads_223__2 k171) := rfl
theorem e_X12_reads_223__2 (k171 : Nat → wg_M → Option (Int32 × wg_M)) (s2 : wg_M) : q_X12_reads_223__2 k171 s2 = k171 0 s2 := rfl
theorem e_X12_reads_223 (k171 : Nat → wg_M → Option (Int32 × wg_M)) (t0 : Int32) (t1 : Nat) (σ : wg_M) : f_X12_reads_223 k171 0 t0 t1 σ = wg_st σ t1 19 t0 (q_X12_reads_223__1 k171) := rfl
def q_X12_reads_171__4 (n : Nat) (s4 : wg_M) (v6 : Int32) (s7 : wg_M) : Option (Int32 × wg_M) := f_X12_reads_223 (f_X12_reads_171  n) 0 ((((10 : Int32) * (s4 0 19)) + v6) - (48 : Int32)) 0 s7
def q_X12_reads_171__3 (s5 : wg_M) : Option (Int32 × wg_M) := some (0, s5)
def q_X12_reads_171__2 (n : Nat) (v3 : Int32) (s4 : wg_M) : Option (Int32 × wg_M) := if v3 = 0 then (if (5 : Int32) ≤ ((s4 0 16) - (s4 0 17)) then (some (0, s4)) else (wg_st s4 0 18 (3 : Int32) q_X12_reads_171__3)) else (if (10000 : Int32) ≤ (s4 0 19) then (f_X12_reads_223 (f_X12_reads_171  n) 0 (s4 0 19) 0 s4) else (wg_bd (f_X12_raw 0 (s4 0 16) s4) (q_X12_reads_171__4 n s4)))
def q_X12_reads_171__1 (n : Nat) (v1 : Int32) (s2 : wg_M) : Option (Int32 × wg_M) := wg_bd (f_X12_isDigit 0 v1 s2) (q_X12_reads_171__2 n)
theorem e_X12_reads_171__1 (n : Nat) (v1 : Int32) (s2 : wg_M) : q_X12_reads_171__1 n v1 s2 = wg_bd (f_X12_isDigit 0 v1 s2) (q_X12_reads_171__2 n) := rfl
theorem e_X12_reads_171__2 (n : Nat) (v3 : Int32) (s4 : wg_M) : q_X12_reads_171__2 n v3 s4 = if v3 = 0 then (if (5 : Int32) ≤ ((s4 0 16) - (s4 0 17)) then (some (0, s4)) else (wg_st s4 0 18 (3 : Int32) q_X12_reads_171__3)) else (if (10000 : Int32) ≤ (s4 0 19) then (f_X12_reads_223 (f_X12_reads_171  n) 0 (s4 0 19) 0 s4) else (wg_bd (f_X12_raw 0 (s4 0 16) s4) (q_X12_reads_171__4 n s4))) := rfl
theorem e_X12_reads_171__3 (s5 : wg_M) : q_X12_reads_171__3 s5 = some (0, s5) := rfl
theorem e_X12_reads_171__4 (n : Nat) (s4 : wg_M) (v6 : Int32) (s7 : wg_M) : q_X12_reads_171__4 n s4 v6 s7 = f_X12_reads_223 (f_X12_reads_171  n) 0 ((((10 : Int32) * (s4 0 19)) + v6) - (48 : Int32)) 0 s7 := rfl
theorem e_X12_reads_171 (n : Nat) (σ : wg_M) : f_X12_reads_171 (n + 1) 0 σ = wg_bd (f_X12_raw 0 (σ 0 16) σ) (q_X12_reads_171__1 n) := by
  rw [f_X12_reads_171]
  rfl
def q_X12_reads_95__6 (n : Nat) (s9 : wg_M) : Option (Int32 × wg_M) := f_X12_reads_95  n 0 s9
def q_X12_reads_95__5 (s8 : wg_M) : Option (Int32 × wg_M) := some (0, s8)
def q_X12_reads_95__4 (s7 : wg_M) : Option (Int32 × wg_M) := if (s7 0 19) = (-1 : Int32) then (some (0, s7)) else (wg_st s7 0 18 (2 : Int32) q_X12_reads_95__5)
def q_X12_reads_95__3 (v5 : Int32) (s6 : wg_M) : Option (Int32 × wg_M) := wg_st s6 0 19 v5 q_X12_reads_95__4
def q_X12_reads_95__2 (n : Nat) (v3 : Int32) (s4 : wg_M) : Option (Int32 × wg_M) := if v3 = 0 then (wg_bd (f_X12_wordAt 0 (s4 0 17) (s4 0 16) s4) q_X12_reads_95__3) else (wg_st s4 0 16 ((s4 0 16) + (1 : Int32)) (q_X12_reads_95__6 n))
def q_X12_reads_95__1 (n : Nat) (v1 : Int32) (s2 : wg_M) : Option (Int32 × wg_M) := wg_bd (f_X12_isLetter 0 v1 s2) (q_X12_reads_95__2 n)
theorem e_X12_reads_95__1 (n : Nat) (v1 : Int32) (s2 : wg_M) : q_X12_reads_95__1 n v1 s2 = wg_bd (f_X12_isLetter 0 v1 s2) (q_X12_reads_95__2 n) := rfl
theorem e_X12_reads_95__2 (n : Nat) (v3 : Int32) (s4 : wg_M) : q_X12_reads_95__2 n v3 s4 = if v3 = 0 then (wg_bd (f_X12_wordAt 0 (s4 0 17) (s4 0 16) s4) q_X12_reads_95__3) else (wg_st s4 0 16 ((s4 0 16) + (1 : Int32)) (q_X12_reads_95__6 n)) := rfl
theorem e_X12_reads_95__3 (v5 : Int32) (s6 : wg_M) : q_X12_reads_95__3 v5 s6 = wg_st s6 0 19 v5 q_X12_reads_95__4 := rfl
theorem e_X12_reads_95__4 (s7 : wg_M) : q_X12_reads_95__4 s7 = if (s7 0 19) = (-1 : Int32) then (some (0, s7)) else (wg_st s7 0 18 (2 : Int32) q_X12_reads_95__5) := rfl
theorem e_X12_reads_95__5 (s8 : wg_M) : q_X12_reads_95__5 s8 = some (0, s8) := rfl
theorem e_X12_reads_95__6 (n : Nat) (s9 : wg_M) : q_X12_reads_95__6 n s9 = f_X12_reads_95  n 0 s9 := rfl
theorem e_X12_reads_95 (n : Nat) (σ : wg_M) : f_X12_reads_95 (n + 1) 0 σ = wg_bd (f_X12_raw 0 (σ 0 16) σ) (q_X12_reads_95__1 n) := by
  rw [f_X12_reads_95]
  rfl
def q_X12_reads_0__13 (s18 : wg_M) : Option (Int32 × wg_M) := f_X12_reads_171  wg_N 0 s18
def q_X12_reads_0__12 (s17 : wg_M) : Option (Int32 × wg_M) := some (0, s17)
def q_X12_reads_0__11 (v15 : Int32) (s16 : wg_M) : Option (Int32 × wg_M) := if v15 = 0 then (some (0, s16)) else (wg_st s16 0 18 (4 : Int32) q_X12_reads_0__12)
def q_X12_reads_0__10 (v7 : Int32) (v13 : Int32) (s14 : wg_M) : Option (Int32 × wg_M) := if v13 = 0 then (wg_bd (f_X12_isMarkSign 0 v7 s14) q_X12_reads_0__11) else (wg_st s14 0 19 (v7 - (48 : Int32)) q_X12_reads_0__13)
def q_X12_reads_0__9 (v7 : Int32) (v11 : Int32) (s12 : wg_M) : Option (Int32 × wg_M) := if v11 = 0 then (wg_bd (f_X12_isDigit 0 v7 s12) (q_X12_reads_0__10 v7)) else (f_X12_reads_95  wg_N 0 s12)
def q_X12_reads_0__8 (v7 : Int32) (s10 : wg_M) : Option (Int32 × wg_M) := wg_bd (f_X12_isLetter 0 v7 s10) (q_X12_reads_0__9 v7)
def q_X12_reads_0__7 (v7 : Int32) (s9 : wg_M) : Option (Int32 × wg_M) := wg_st s9 0 19 v7 (q_X12_reads_0__8 v7)
def q_X12_reads_0__6 (s19 : wg_M) : Option (Int32 × wg_M) := some (0, s19)
def q_X12_reads_0__5 (v7 : Int32) (s8 : wg_M) : Option (Int32 × wg_M) := if v7 = (-1 : Int32) then (wg_st s8 0 18 (0 : Int32) q_X12_reads_0__6) else (wg_st s8 0 16 ((s8 0 16) + (1 : Int32)) (q_X12_reads_0__7 v7))
def q_X12_reads_0__4 (s6 : wg_M) : Option (Int32 × wg_M) := wg_bd (f_X12_raw 0 (s6 0 16) s6) q_X12_reads_0__5
def q_X12_reads_0__3 (s5 : wg_M) : Option (Int32 × wg_M) := wg_st s5 0 18 (1 : Int32) q_X12_reads_0__4
def q_X12_reads_0__2 (n : Nat) (v3 : Int32) (s4 : wg_M) : Option (Int32 × wg_M) := if v3 = (10 : Int32) then (f_X12_reads_26 (f_X12_reads_0  n) 0 s4) else (wg_st s4 0 17 (s4 0 16) q_X12_reads_0__3)
def q_X12_reads_0__1 (n : Nat) (v1 : Int32) (s2 : wg_M) : Option (Int32 × wg_M) := if v1 = (32 : Int32) then (f_X12_reads_26 (f_X12_reads_0  n) 0 s2) else (wg_bd (f_X12_raw 0 (s2 0 16) s2) (q_X12_reads_0__2 n))
theorem e_X12_reads_0__1 (n : Nat) (v1 : Int32) (s2 : wg_M) : q_X12_reads_0__1 n v1 s2 = if v1 = (32 : Int32) then (f_X12_reads_26 (f_X12_reads_0  n) 0 s2) else (wg_bd (f_X12_raw 0 (s2 0 16) s2) (q_X12_reads_0__2 n)) := rfl
theorem e_X12_reads_0__2 (n : Nat) (v3 : Int32) (s4 : wg_M) : q_X12_reads_0__2 n v3 s4 = if v3 = (10 : Int32) then (f_X12_reads_26 (f_X12_reads_0  n) 0 s4) else (wg_st s4 0 17 (s4 0 16) q_X12_reads_0__3) := rfl
theorem e_X12_reads_0__3 (s5 : wg_M) : q_X12_reads_0__3 s5 = wg_st s5 0 18 (1 : Int32) q_X12_reads_0__4 := rfl
theorem e_X12_reads_0__4 (s6 : wg_M) : q_X12_reads_0__4 s6 = wg_bd (f_X12_raw 0 (s6 0 16) s6) q_X12_reads_0__5 := rfl
theorem e_X12_reads_0__5 (v7 : Int32) (s8 : wg_M) : q_X12_reads_0__5 v7 s8 = if v7 = (-1 : Int32) then (wg_st s8 0 18 (0 : Int32) q_X12_reads_0__6) else (wg_st s8 0 16 ((s8 0 16) + (1 : Int32)) (q_X12_reads_0__7 v7)) := rfl
theorem e_X12_reads_0__6 (s19 : wg_M) : q_X12_reads_0__6 s19 = some (0, s19) := rfl
theorem e_X12_reads_0__7 (v7 : Int32) (s9 : wg_M) : q_X12_reads_0__7 v7 s9 = wg_st s9 0 19 v7 (q_X12_reads_0__8 v7) := rfl
theorem e_X12_reads_0__8 (v7 : Int32) (s10 : wg_M) : q_X12_reads_0__8 v7 s10 = wg_bd (f_X12_isLetter 0 v7 s10) (q_X12_reads_0__9 v7) := rfl
theorem e_X12_reads_0__9 (v7 : Int32) (v11 : Int32) (s12 : wg_M) : q_X12_reads_0__9 v7 v11 s12 = if v11 = 0 then (wg_bd (f_X12_isDigit 0 v7 s12) (q_X12_reads_0__10 v7)) else (f_X12_reads_95  wg_N 0 s12) := rfl
theorem e_X12_reads_0__10 (v7 : Int32) (v13 : Int32) (s14 : wg_M) : q_X12_reads_0__10 v7 v13 s14 = if v13 = 0 then (wg_bd (f_X12_isMarkSign 0 v7 s14) q_X12_reads_0__11) else (wg_st s14 0 19 (v7 - (48 : Int32)) q_X12_reads_0__13) := rfl
theorem e_X12_reads_0__11 (v15 : Int32) (s16 : wg_M) : q_X12_reads_0__11 v15 s16 = if v15 = 0 then (some (0, s16)) else (wg_st s16 0 18 (4 : Int32) q_X12_reads_0__12) := rfl
theorem e_X12_reads_0__12 (s17 : wg_M) : q_X12_reads_0__12 s17 = some (0, s17) := rfl
theorem e_X12_reads_0__13 (s18 : wg_M) : q_X12_reads_0__13 s18 = f_X12_reads_171  wg_N 0 s18 := rfl
theorem e_X12_reads_0 (n : Nat) (σ : wg_M) : f_X12_reads_0 (n + 1) 0 σ = wg_bd (f_X12_raw 0 (σ 0 16) σ) (q_X12_reads_0__1 n) := by
  rw [f_X12_reads_0]
  rfl
theorem e_X12_reads (σ : wg_M) : f_X12_reads 0 σ = f_X12_reads_0  wg_N 0 σ := rfl
def q_X12_errs__2 (s2 : wg_M) : Option (Int32 × wg_M) := some ((-1 : Int32), s2)
def q_X12_errs__1 (s1 : wg_M) : Option (Int32 × wg_M) := wg_st s1 0 34 (s1 0 17) q_X12_errs__2
theorem e_X12_errs__1 (s1 : wg_M) : q_X12_errs__1 s1 = wg_st s1 0 34 (s1 0 17) q_X12_errs__2 := rfl
theorem e_X12_errs__2 (s2 : wg_M) : q_X12_errs__2 s2 = some ((-1 : Int32), s2) := rfl
theorem e_X12_errs (x1 : Int32) (σ : wg_M) : f_X12_errs 0 x1 σ = wg_st σ 0 33 x1 q_X12_errs__1 := rfl
theorem e_X12_isWord (x1 : Int32) (σ : wg_M) : f_X12_isWord 0 x1 σ = if (σ 0 18) = (2 : Int32) then (if (σ 0 19) = x1 then (some ((1 : Int32), σ)) else (some ((0 : Int32), σ))) else (some ((0 : Int32), σ)) := rfl
theorem e_X12_isSign (x1 : Int32) (σ : wg_M) : f_X12_isSign 0 x1 σ = if (σ 0 18) = (4 : Int32) then (if (σ 0 19) = x1 then (some ((1 : Int32), σ)) else (some ((0 : Int32), σ))) else (some ((0 : Int32), σ)) := rfl
def q_X12_emits__3 (s3 : wg_M) : Option (Int32 × wg_M) := some (0, s3)
def q_X12_emits__2 (s2 : wg_M) : Option (Int32 × wg_M) := wg_st s2 0 29 ((s2 0 29) + (1 : Int32)) q_X12_emits__3
def q_X12_emits__1 (x2 : Int32) (s1 : wg_M) : Option (Int32 × wg_M) := wg_sa 1200 s1 17 ((800 : Int32) + (s1 0 29)) x2 q_X12_emits__2
theorem e_X12_emits__1 (x2 : Int32) (s1 : wg_M) : q_X12_emits__1 x2 s1 = wg_sa 1200 s1 17 ((800 : Int32) + (s1 0 29)) x2 q_X12_emits__2 := rfl
theorem e_X12_emits__2 (s2 : wg_M) : q_X12_emits__2 s2 = wg_st s2 0 29 ((s2 0 29) + (1 : Int32)) q_X12_emits__3 := rfl
theorem e_X12_emits__3 (s3 : wg_M) : q_X12_emits__3 s3 = some (0, s3) := rfl
theorem e_X12_emits (x1 : Int32) (x2 : Int32) (σ : wg_M) : f_X12_emits 0 x1 x2 σ = wg_sa 1200 σ 16 ((800 : Int32) + (σ 0 29)) x1 (q_X12_emits__1 x2) := by
  unfold f_X12_emits
  simp only [sm_n16, sm_n17, sm_r0_26, sm_r0_27]
  rfl
def q_X12_canAsk__1 (v1 : Int32) (s2 : wg_M) : Option (Int32 × wg_M) := wg_bz v1 (some (v1, s2))
theorem e_X12_canAsk__1 (v1 : Int32) (s2 : wg_M) : q_X12_canAsk__1 v1 s2 = wg_bz v1 (some (v1, s2)) := rfl
theorem e_X12_canAsk (x1 : Int32) (σ : wg_M) : f_X12_canAsk 0 x1 σ = wg_bd (f_X12_isIn 0 x1 (7 : Int32) (16 : Int32) σ) q_X12_canAsk__1 := rfl
def q_X12_readUnit_71__2 (_u2 : Int32) (s2 : wg_M) : Option (Int32 × wg_M) := some ((0 : Int32), s2)
def q_X12_readUnit_71__1 (_u1 : Int32) (s1 : wg_M) : Option (Int32 × wg_M) := wg_bd (f_X12_reads 0 s1) q_X12_readUnit_71__2
theorem e_X12_readUnit_71__1 (_u1 : Int32) (s1 : wg_M) : q_X12_readUnit_71__1 _u1 s1 = wg_bd (f_X12_reads 0 s1) q_X12_readUnit_71__2 := rfl
theorem e_X12_readUnit_71__2 (_u2 : Int32) (s2 : wg_M) : q_X12_readUnit_71__2 _u2 s2 = some ((0 : Int32), s2) := rfl
theorem e_X12_readUnit_71 (t0 : Int32) (t1 : Int32) (t2 : Nat) (σ : wg_M) : f_X12_readUnit_71 0 t0 t1 t2 σ = wg_bd (f_X12_emits t2 t1 t0 σ) q_X12_readUnit_71__1 := rfl
theorem e_X12_readUnit_53 (x1 : Int32) (t0 : Int32) (t1 : Nat) (σ : wg_M) : f_X12_readUnit_53 0 x1 t0 t1 σ = if x1 = 0 then (f_X12_readUnit_71  0 (σ 0 19) t0 t1 σ) else (f_X12_readUnit_71  0 ((σ 0 19) - (7 : Int32)) t0 t1 σ) := rfl
theorem e_X12_readUnit_43 (x1 : Int32) (σ : wg_M) : f_X12_readUnit_43 0 x1 σ = if x1 = 0 then (f_X12_readUnit_53  0 x1 (0 : Int32) 0 σ) else (f_X12_readUnit_53  0 x1 (1 : Int32) 0 σ) := rfl
def q_X12_readUnit_24__1 (v1 : Int32) (s2 : wg_M) : Option (Int32 × wg_M) := some (v1, s2)
theorem e_X12_readUnit_24__1 (v1 : Int32) (s2 : wg_M) : q_X12_readUnit_24__1 v1 s2 = some (v1, s2) := rfl
theorem e_X12_readUnit_24 (t0 : Int32) (σ : wg_M) : f_X12_readUnit_24 0 t0 σ = if t0 = 0 then (if (σ 0 18) = (3 : Int32) then (f_X12_readUnit_43  0 t0 σ) else (wg_bd (f_X12_errs 0 (1 : Int32) σ) q_X12_readUnit_24__1)) else (f_X12_readUnit_43  0 t0 σ) := rfl
theorem e_X12_readUnit_23 (σ : wg_M) : f_X12_readUnit_23 0 σ = f_X12_readUnit_24  0 (0 : Int32) σ := rfl
def q_X12_readUnit__1 (v1 : Int32) (s2 : wg_M) : Option (Int32 × wg_M) := if v1 = 0 then (f_X12_readUnit_23  0 s2) else (f_X12_readUnit_24  0 (1 : Int32) s2)
theorem e_X12_readUnit__1 (v1 : Int32) (s2 : wg_M) : q_X12_readUnit__1 v1 s2 = if v1 = 0 then (f_X12_readUnit_23  0 s2) else (f_X12_readUnit_24  0 (1 : Int32) s2) := rfl
theorem e_X12_readUnit (σ : wg_M) : f_X12_readUnit 0 σ = if (σ 0 18) = (2 : Int32) then (wg_bd (f_X12_canAsk 0 (σ 0 19) σ) q_X12_readUnit__1) else (f_X12_readUnit_23  0 σ) := rfl
def q_X12_readProduct_94__1 (k10 : Nat → wg_M → Option (Int32 × wg_M)) (_u1 : Int32) (s1 : wg_M) : Option (Int32 × wg_M) := k10 0 s1
theorem e_X12_readProduct_94__1 (k10 : Nat → wg_M → Option (Int32 × wg_M)) (_u1 : Int32) (s1 : wg_M) : q_X12_readProduct_94__1 k10 _u1 s1 = k10 0 s1 := rfl
theorem e_X12_readProduct_94 (k10 : Nat → wg_M → Option (Int32 × wg_M)) (t0 : Int32) (t1 : Nat) (σ : wg_M) : f_X12_readProduct_94 k10 0 t0 t1 σ = wg_bd (f_X12_emits t1 t0 (0 : Int32) σ) (q_X12_readProduct_94__1 k10) := rfl
def q_X12_readProduct_74__1 (k10 : Nat → wg_M → Option (Int32 × wg_M)) (x1 : Int32) (v1 : Int32) (s2 : wg_M) : Option (Int32 × wg_M) := if v1 = (-1 : Int32) then (some ((-1 : Int32), s2)) else (if x1 = 0 then (f_X12_readProduct_94 k10 0 (5 : Int32) 0 s2) else (f_X12_readProduct_94 k10 0 (4 : Int32) 0 s2))
theorem e_X12_readProduct_74__1 (k10 : Nat → wg_M → Option (Int32 × wg_M)) (x1 : Int32) (v1 : Int32) (s2 : wg_M) : q_X12_readProduct_74__1 k10 x1 v1 s2 = if v1 = (-1 : Int32) then (some ((-1 : Int32), s2)) else (if x1 = 0 then (f_X12_readProduct_94 k10 0 (5 : Int32) 0 s2) else (f_X12_readProduct_94 k10 0 (4 : Int32) 0 s2)) := rfl
theorem e_X12_readProduct_74 (k10 : Nat → wg_M → Option (Int32 × wg_M)) (x1 : Int32) (σ : wg_M) : f_X12_readProduct_74 k10 0 x1 σ = wg_bd (f_X12_readUnit 0 σ) (q_X12_readProduct_74__1 k10 x1) := rfl
def q_X12_readProduct_57__1 (v1 : Int32) (s2 : wg_M) : Option (Int32 × wg_M) := some (v1, s2)
theorem e_X12_readProduct_57__1 (v1 : Int32) (s2 : wg_M) : q_X12_readProduct_57__1 v1 s2 = some (v1, s2) := rfl
theorem e_X12_readProduct_57 (k10 : Nat → wg_M → Option (Int32 × wg_M)) (x1 : Int32) (σ : wg_M) : f_X12_readProduct_57 k10 0 x1 σ = if x1 = 0 then (if (σ 0 19) = 0 then (wg_bd (f_X12_errs 0 (2 : Int32) σ) q_X12_readProduct_57__1) else (f_X12_readProduct_74 k10 0 x1 σ)) else (f_X12_readProduct_74 k10 0 x1 σ) := rfl
def q_X12_readProduct_28__3 (v4 : Int32) (s5 : wg_M) : Option (Int32 × wg_M) := some (v4, s5)
def q_X12_readProduct_28__2 (k10 : Nat → wg_M → Option (Int32 × wg_M)) (v1 : Int32) (_u2 : Int32) (s3 : wg_M) : Option (Int32 × wg_M) := if v1 = 0 then (if (s3 0 18) = (3 : Int32) then (f_X12_readProduct_57 k10 0 v1 s3) else (wg_bd (f_X12_errs 0 (1 : Int32) s3) q_X12_readProduct_28__3)) else (f_X12_readProduct_57 k10 0 v1 s3)
def q_X12_readProduct_28__1 (k10 : Nat → wg_M → Option (Int32 × wg_M)) (v1 : Int32) (s2 : wg_M) : Option (Int32 × wg_M) := wg_bd (f_X12_reads 0 s2) (q_X12_readProduct_28__2 k10 v1)
theorem e_X12_readProduct_28__1 (k10 : Nat → wg_M → Option (Int32 × wg_M)) (v1 : Int32) (s2 : wg_M) : q_X12_readProduct_28__1 k10 v1 s2 = wg_bd (f_X12_reads 0 s2) (q_X12_readProduct_28__2 k10 v1) := rfl
theorem e_X12_readProduct_28__2 (k10 : Nat → wg_M → Option (Int32 × wg_M)) (v1 : Int32) (_u2 : Int32) (s3 : wg_M) : q_X12_readProduct_28__2 k10 v1 _u2 s3 = if v1 = 0 then (if (s3 0 18) = (3 : Int32) then (f_X12_readProduct_57 k10 0 v1 s3) else (wg_bd (f_X12_errs 0 (1 : Int32) s3) q_X12_readProduct_28__3)) else (f_X12_readProduct_57 k10 0 v1 s3) := rfl
theorem e_X12_readProduct_28__3 (v4 : Int32) (s5 : wg_M) : q_X12_readProduct_28__3 v4 s5 = some (v4, s5) := rfl
theorem e_X12_readProduct_28 (k10 : Nat → wg_M → Option (Int32 × wg_M)) (σ : wg_M) : f_X12_readProduct_28 k10 0 σ = wg_bd (f_X12_isSign 0 (42 : Int32) σ) (q_X12_readProduct_28__1 k10) := rfl
def q_X12_readProduct_10__2 (n : Nat) (v3 : Int32) (s4 : wg_M) : Option (Int32 × wg_M) := if v3 = 0 then (some ((0 : Int32), s4)) else (f_X12_readProduct_28 (f_X12_readProduct_10  n) 0 s4)
def q_X12_readProduct_10__1 (n : Nat) (v1 : Int32) (s2 : wg_M) : Option (Int32 × wg_M) := if v1 = 0 then (wg_bd (f_X12_isSign 0 (47 : Int32) s2) (q_X12_readProduct_10__2 n)) else (f_X12_readProduct_28 (f_X12_readProduct_10  n) 0 s2)
theorem e_X12_readProduct_10__1 (n : Nat) (v1 : Int32) (s2 : wg_M) : q_X12_readProduct_10__1 n v1 s2 = if v1 = 0 then (wg_bd (f_X12_isSign 0 (47 : Int32) s2) (q_X12_readProduct_10__2 n)) else (f_X12_readProduct_28 (f_X12_readProduct_10  n) 0 s2) := rfl
theorem e_X12_readProduct_10__2 (n : Nat) (v3 : Int32) (s4 : wg_M) : q_X12_readProduct_10__2 n v3 s4 = if v3 = 0 then (some ((0 : Int32), s4)) else (f_X12_readProduct_28 (f_X12_readProduct_10  n) 0 s4) := rfl
theorem e_X12_readProduct_10 (n : Nat) (σ : wg_M) : f_X12_readProduct_10 (n + 1) 0 σ = wg_bd (f_X12_isSign 0 (42 : Int32) σ) (q_X12_readProduct_10__1 n) := by
  rw [f_X12_readProduct_10]
  rfl
def q_X12_readProduct__1 (v1 : Int32) (s2 : wg_M) : Option (Int32 × wg_M) := if v1 = (-1 : Int32) then (some ((-1 : Int32), s2)) else (f_X12_readProduct_10  wg_N 0 s2)
theorem e_X12_readProduct__1 (v1 : Int32) (s2 : wg_M) : q_X12_readProduct__1 v1 s2 = if v1 = (-1 : Int32) then (some ((-1 : Int32), s2)) else (f_X12_readProduct_10  wg_N 0 s2) := rfl
theorem e_X12_readProduct (σ : wg_M) : f_X12_readProduct 0 σ = wg_bd (f_X12_readUnit 0 σ) q_X12_readProduct__1 := rfl
def q_X12_readSum_42__3 (k10 : Nat → wg_M → Option (Int32 × wg_M)) (_u3 : Int32) (s4 : wg_M) : Option (Int32 × wg_M) := k10 0 s4
def q_X12_readSum_42__2 (k10 : Nat → wg_M → Option (Int32 × wg_M)) (t0 : Int32) (v2 : Int32) (s3 : wg_M) : Option (Int32 × wg_M) := if v2 = (-1 : Int32) then (some ((-1 : Int32), s3)) else (wg_bd (f_X12_emits 0 t0 (0 : Int32) s3) (q_X12_readSum_42__3 k10))
def q_X12_readSum_42__1 (k10 : Nat → wg_M → Option (Int32 × wg_M)) (t0 : Int32) (_u1 : Int32) (s1 : wg_M) : Option (Int32 × wg_M) := wg_bd (f_X12_readProduct 0 s1) (q_X12_readSum_42__2 k10 t0)
theorem e_X12_readSum_42__1 (k10 : Nat → wg_M → Option (Int32 × wg_M)) (t0 : Int32) (_u1 : Int32) (s1 : wg_M) : q_X12_readSum_42__1 k10 t0 _u1 s1 = wg_bd (f_X12_readProduct 0 s1) (q_X12_readSum_42__2 k10 t0) := rfl
theorem e_X12_readSum_42__2 (k10 : Nat → wg_M → Option (Int32 × wg_M)) (t0 : Int32) (v2 : Int32) (s3 : wg_M) : q_X12_readSum_42__2 k10 t0 v2 s3 = if v2 = (-1 : Int32) then (some ((-1 : Int32), s3)) else (wg_bd (f_X12_emits 0 t0 (0 : Int32) s3) (q_X12_readSum_42__3 k10)) := rfl
theorem e_X12_readSum_42__3 (k10 : Nat → wg_M → Option (Int32 × wg_M)) (_u3 : Int32) (s4 : wg_M) : q_X12_readSum_42__3 k10 _u3 s4 = k10 0 s4 := rfl
theorem e_X12_readSum_42 (k10 : Nat → wg_M → Option (Int32 × wg_M)) (t0 : Int32) (σ : wg_M) : f_X12_readSum_42 k10 0 t0 σ = wg_bd (f_X12_reads 0 σ) (q_X12_readSum_42__1 k10 t0) := rfl
theorem e_X12_readSum_28 (k10 : Nat → wg_M → Option (Int32 × wg_M)) (σ : wg_M) : f_X12_readSum_28 k10 0 σ = if (σ 0 19) = (43 : Int32) then (f_X12_readSum_42 k10 0 (2 : Int32) σ) else (f_X12_readSum_42 k10 0 (3 : Int32) σ) := rfl
def q_X12_readSum_10__2 (n : Nat) (v3 : Int32) (s4 : wg_M) : Option (Int32 × wg_M) := if v3 = 0 then (some ((0 : Int32), s4)) else (f_X12_readSum_28 (f_X12_readSum_10  n) 0 s4)
def q_X12_readSum_10__1 (n : Nat) (v1 : Int32) (s2 : wg_M) : Option (Int32 × wg_M) := if v1 = 0 then (wg_bd (f_X12_isSign 0 (45 : Int32) s2) (q_X12_readSum_10__2 n)) else (f_X12_readSum_28 (f_X12_readSum_10  n) 0 s2)
theorem e_X12_readSum_10__1 (n : Nat) (v1 : Int32) (s2 : wg_M) : q_X12_readSum_10__1 n v1 s2 = if v1 = 0 then (wg_bd (f_X12_isSign 0 (45 : Int32) s2) (q_X12_readSum_10__2 n)) else (f_X12_readSum_28 (f_X12_readSum_10  n) 0 s2) := rfl
theorem e_X12_readSum_10__2 (n : Nat) (v3 : Int32) (s4 : wg_M) : q_X12_readSum_10__2 n v3 s4 = if v3 = 0 then (some ((0 : Int32), s4)) else (f_X12_readSum_28 (f_X12_readSum_10  n) 0 s4) := rfl
theorem e_X12_readSum_10 (n : Nat) (σ : wg_M) : f_X12_readSum_10 (n + 1) 0 σ = wg_bd (f_X12_isSign 0 (43 : Int32) σ) (q_X12_readSum_10__1 n) := by
  rw [f_X12_readSum_10]
  rfl
def q_X12_readSum__1 (v1 : Int32) (s2 : wg_M) : Option (Int32 × wg_M) := if v1 = (-1 : Int32) then (some ((-1 : Int32), s2)) else (f_X12_readSum_10  wg_N 0 s2)
theorem e_X12_readSum__1 (v1 : Int32) (s2 : wg_M) : q_X12_readSum__1 v1 s2 = if v1 = (-1 : Int32) then (some ((-1 : Int32), s2)) else (f_X12_readSum_10  wg_N 0 s2) := rfl
theorem e_X12_readSum (σ : wg_M) : f_X12_readSum 0 σ = wg_bd (f_X12_readProduct 0 σ) q_X12_readSum__1 := rfl
def q_X12_readCompared_73__3 (_u3 : Int32) (s4 : wg_M) : Option (Int32 × wg_M) := some ((0 : Int32), s4)
def q_X12_readCompared_73__2 (t0 : Int32) (v2 : Int32) (s3 : wg_M) : Option (Int32 × wg_M) := if v2 = (-1 : Int32) then (some ((-1 : Int32), s3)) else (wg_bd (f_X12_emits 0 t0 (0 : Int32) s3) q_X12_readCompared_73__3)
def q_X12_readCompared_73__1 (t0 : Int32) (_u1 : Int32) (s1 : wg_M) : Option (Int32 × wg_M) := wg_bd (f_X12_readSum 0 s1) (q_X12_readCompared_73__2 t0)
theorem e_X12_readCompared_73__1 (t0 : Int32) (_u1 : Int32) (s1 : wg_M) : q_X12_readCompared_73__1 t0 _u1 s1 = wg_bd (f_X12_readSum 0 s1) (q_X12_readCompared_73__2 t0) := rfl
theorem e_X12_readCompared_73__2 (t0 : Int32) (v2 : Int32) (s3 : wg_M) : q_X12_readCompared_73__2 t0 v2 s3 = if v2 = (-1 : Int32) then (some ((-1 : Int32), s3)) else (wg_bd (f_X12_emits 0 t0 (0 : Int32) s3) q_X12_readCompared_73__3) := rfl
theorem e_X12_readCompared_73__3 (_u3 : Int32) (s4 : wg_M) : q_X12_readCompared_73__3 _u3 s4 = some ((0 : Int32), s4) := rfl
theorem e_X12_readCompared_73 (t0 : Int32) (σ : wg_M) : f_X12_readCompared_73 0 t0 σ = wg_bd (f_X12_reads 0 σ) (q_X12_readCompared_73__1 t0) := rfl
theorem e_X12_readCompared_43 (σ : wg_M) : f_X12_readCompared_43 0 σ = if (σ 0 19) = (60 : Int32) then (f_X12_readCompared_73  0 (6 : Int32) σ) else (if (σ 0 19) = (61 : Int32) then (f_X12_readCompared_73  0 (7 : Int32) σ) else (f_X12_readCompared_73  0 (8 : Int32) σ)) := rfl
def q_X12_readCompared__5 (v9 : Int32) (s10 : wg_M) : Option (Int32 × wg_M) := some (v9, s10)
def q_X12_readCompared__4 (v7 : Int32) (s8 : wg_M) : Option (Int32 × wg_M) := if v7 = 0 then (wg_bd (f_X12_errs 0 (1 : Int32) s8) q_X12_readCompared__5) else (f_X12_readCompared_43  0 s8)
def q_X12_readCompared__3 (v5 : Int32) (s6 : wg_M) : Option (Int32 × wg_M) := if v5 = 0 then (wg_bd (f_X12_isSign 0 (62 : Int32) s6) q_X12_readCompared__4) else (f_X12_readCompared_43  0 s6)
def q_X12_readCompared__2 (v3 : Int32) (s4 : wg_M) : Option (Int32 × wg_M) := if v3 = 0 then (wg_bd (f_X12_isSign 0 (61 : Int32) s4) q_X12_readCompared__3) else (f_X12_readCompared_43  0 s4)
def q_X12_readCompared__1 (v1 : Int32) (s2 : wg_M) : Option (Int32 × wg_M) := if v1 = (-1 : Int32) then (some ((-1 : Int32), s2)) else (wg_bd (f_X12_isSign 0 (60 : Int32) s2) q_X12_readCompared__2)
theorem e_X12_readCompared__1 (v1 : Int32) (s2 : wg_M) : q_X12_readCompared__1 v1 s2 = if v1 = (-1 : Int32) then (some ((-1 : Int32), s2)) else (wg_bd (f_X12_isSign 0 (60 : Int32) s2) q_X12_readCompared__2) := rfl
theorem e_X12_readCompared__2 (v3 : Int32) (s4 : wg_M) : q_X12_readCompared__2 v3 s4 = if v3 = 0 then (wg_bd (f_X12_isSign 0 (61 : Int32) s4) q_X12_readCompared__3) else (f_X12_readCompared_43  0 s4) := rfl
theorem e_X12_readCompared__3 (v5 : Int32) (s6 : wg_M) : q_X12_readCompared__3 v5 s6 = if v5 = 0 then (wg_bd (f_X12_isSign 0 (62 : Int32) s6) q_X12_readCompared__4) else (f_X12_readCompared_43  0 s6) := rfl
theorem e_X12_readCompared__4 (v7 : Int32) (s8 : wg_M) : q_X12_readCompared__4 v7 s8 = if v7 = 0 then (wg_bd (f_X12_errs 0 (1 : Int32) s8) q_X12_readCompared__5) else (f_X12_readCompared_43  0 s8) := rfl
theorem e_X12_readCompared__5 (v9 : Int32) (s10 : wg_M) : q_X12_readCompared__5 v9 s10 = some (v9, s10) := rfl
theorem e_X12_readCompared (σ : wg_M) : f_X12_readCompared 0 σ = wg_bd (f_X12_readSum 0 σ) q_X12_readCompared__1 := rfl
def q_X12_waits__2 (s2 : wg_M) : Option (Int32 × wg_M) := some (0, s2)
def q_X12_waits__1 (s1 : wg_M) : Option (Int32 × wg_M) := wg_st s1 0 32 ((s1 0 32) + (1 : Int32)) q_X12_waits__2
theorem e_X12_waits__1 (s1 : wg_M) : q_X12_waits__1 s1 = wg_st s1 0 32 ((s1 0 32) + (1 : Int32)) q_X12_waits__2 := rfl
theorem e_X12_waits__2 (s2 : wg_M) : q_X12_waits__2 s2 = some (0, s2) := rfl
theorem e_X12_waits (x1 : Int32) (σ : wg_M) : f_X12_waits 0 x1 σ = wg_sa 40 σ 18 (σ 0 32) x1 q_X12_waits__1 := by
  unfold f_X12_waits
  simp only [sm_n18, sm_r0_31]
  rfl
def q_X12_settles_0__4 (n : Nat) (x1 : Int32) (s4 : wg_M) : Option (Int32 × wg_M) := f_X12_settles_0  n 0 x1 s4
def q_X12_settles_0__3 (n : Nat) (x1 : Int32) (_u3 : Int32) (s3 : wg_M) : Option (Int32 × wg_M) := if x1 = (9 : Int32) then (wg_st s3 0 30 ((s3 0 30) - (1 : Int32)) (q_X12_settles_0__4 n x1)) else (f_X12_settles_0  n 0 x1 s3)
def q_X12_settles_0__2 (n : Nat) (x1 : Int32) (s2 : wg_M) : Option (Int32 × wg_M) := wg_bd (f_X12_emits 0 x1 (0 : Int32) s2) (q_X12_settles_0__3 n x1)
def q_X12_settles_0__1 (n : Nat) (x1 : Int32) (σ : wg_M) (v1 : Int32) : Option (Int32 × wg_M) := if v1 = x1 then (wg_st σ 0 32 ((σ 0 32) - (1 : Int32)) (q_X12_settles_0__2 n x1)) else (some (0, σ))
theorem e_X12_settles_0__1 (n : Nat) (x1 : Int32) (σ : wg_M) (v1 : Int32) : q_X12_settles_0__1 n x1 σ v1 = if v1 = x1 then (wg_st σ 0 32 ((σ 0 32) - (1 : Int32)) (q_X12_settles_0__2 n x1)) else (some (0, σ)) := rfl
theorem e_X12_settles_0__2 (n : Nat) (x1 : Int32) (s2 : wg_M) : q_X12_settles_0__2 n x1 s2 = wg_bd (f_X12_emits 0 x1 (0 : Int32) s2) (q_X12_settles_0__3 n x1) := rfl
theorem e_X12_settles_0__3 (n : Nat) (x1 : Int32) (_u3 : Int32) (s3 : wg_M) : q_X12_settles_0__3 n x1 _u3 s3 = if x1 = (9 : Int32) then (wg_st s3 0 30 ((s3 0 30) - (1 : Int32)) (q_X12_settles_0__4 n x1)) else (f_X12_settles_0  n 0 x1 s3) := rfl
theorem e_X12_settles_0__4 (n : Nat) (x1 : Int32) (s4 : wg_M) : q_X12_settles_0__4 n x1 s4 = f_X12_settles_0  n 0 x1 s4 := rfl
theorem e_X12_settles_0 (n : Nat) (x1 : Int32) (σ : wg_M) : f_X12_settles_0 (n + 1) 0 x1 σ = if (σ 0 32) ≤ 0 then (some (0, σ)) else (wg_ga 40 (σ 18) ((σ 0 32) - (1 : Int32)) (q_X12_settles_0__1 n x1 σ)) := by
  rw [f_X12_settles_0]
  simp only [sm_n18, sm_r0_31]
  rfl
theorem e_X12_settles (x1 : Int32) (σ : wg_M) : f_X12_settles 0 x1 σ = f_X12_settles_0  wg_N 0 x1 σ := rfl
def q_X12_readAny_78__2 (k9 : Nat → Int32 → Int32 → wg_M → Option (Int32 × wg_M)) (x1 : Int32) (x2 : Int32) (_u2 : Int32) (s2 : wg_M) : Option (Int32 × wg_M) := k9 0 x1 x2 s2
def q_X12_readAny_78__1 (k9 : Nat → Int32 → Int32 → wg_M → Option (Int32 × wg_M)) (x1 : Int32) (x2 : Int32) (_u1 : Int32) (s1 : wg_M) : Option (Int32 × wg_M) := wg_bd (f_X12_reads 0 s1) (q_X12_readAny_78__2 k9 x1 x2)
theorem e_X12_readAny_78__1 (k9 : Nat → Int32 → Int32 → wg_M → Option (Int32 × wg_M)) (x1 : Int32) (x2 : Int32) (_u1 : Int32) (s1 : wg_M) : q_X12_readAny_78__1 k9 x1 x2 _u1 s1 = wg_bd (f_X12_reads 0 s1) (q_X12_readAny_78__2 k9 x1 x2) := rfl
theorem e_X12_readAny_78__2 (k9 : Nat → Int32 → Int32 → wg_M → Option (Int32 × wg_M)) (x1 : Int32) (x2 : Int32) (_u2 : Int32) (s2 : wg_M) : q_X12_readAny_78__2 k9 x1 x2 _u2 s2 = k9 0 x1 x2 s2 := rfl
theorem e_X12_readAny_78 (k9 : Nat → Int32 → Int32 → wg_M → Option (Int32 × wg_M)) (x1 : Int32) (x2 : Int32) (t0 : Int32) (t1 : Nat) (σ : wg_M) : f_X12_readAny_78 k9 0 x1 x2 t0 t1 σ = wg_bd (f_X12_waits t1 t0 σ) (q_X12_readAny_78__1 k9 x1 x2) := rfl
theorem e_X12_readAny_66 (k9 : Nat → Int32 → Int32 → wg_M → Option (Int32 × wg_M)) (x1 : Int32) (x2 : Int32) (x3 : Int32) (σ : wg_M) : f_X12_readAny_66 k9 0 x1 x2 x3 σ = if x3 = 0 then (f_X12_readAny_78 k9 0 x1 x2 (12 : Int32) 0 σ) else (f_X12_readAny_78 k9 0 x1 x2 (9 : Int32) 0 σ) := rfl
def q_X12_readAny_33__3 (k9 : Nat → Int32 → Int32 → wg_M → Option (Int32 × wg_M)) (x2 : Int32) (x3 : Int32) (s1 : wg_M) (v2 : Int32) : Option (Int32 × wg_M) := f_X12_readAny_66 k9 0 v2 x2 x3 s1
def q_X12_readAny_33__2 (k9 : Nat → Int32 → Int32 → wg_M → Option (Int32 × wg_M)) (x1 : Int32) (x2 : Int32) (x3 : Int32) (s1 : wg_M) : Option (Int32 × wg_M) := if x3 = 0 then (wg_let (x1 + (1 : Int32)) (q_X12_readAny_33__3 k9 x2 x3 s1)) else (f_X12_readAny_66 k9 0 x1 x2 x3 s1)
def q_X12_readAny_33__1 (v3 : Int32) (s4 : wg_M) : Option (Int32 × wg_M) := some (v3, s4)
theorem e_X12_readAny_33__1 (v3 : Int32) (s4 : wg_M) : q_X12_readAny_33__1 v3 s4 = some (v3, s4) := rfl
theorem e_X12_readAny_33__2 (k9 : Nat → Int32 → Int32 → wg_M → Option (Int32 × wg_M)) (x1 : Int32) (x2 : Int32) (x3 : Int32) (s1 : wg_M) : q_X12_readAny_33__2 k9 x1 x2 x3 s1 = if x3 = 0 then (wg_let (x1 + (1 : Int32)) (q_X12_readAny_33__3 k9 x2 x3 s1)) else (f_X12_readAny_66 k9 0 x1 x2 x3 s1) := rfl
theorem e_X12_readAny_33__3 (k9 : Nat → Int32 → Int32 → wg_M → Option (Int32 × wg_M)) (x2 : Int32) (x3 : Int32) (s1 : wg_M) (v2 : Int32) : q_X12_readAny_33__3 k9 x2 x3 s1 v2 = f_X12_readAny_66 k9 0 v2 x2 x3 s1 := rfl
theorem e_X12_readAny_33 (k9 : Nat → Int32 → Int32 → wg_M → Option (Int32 × wg_M)) (x1 : Int32) (x2 : Int32) (x3 : Int32) (σ : wg_M) : f_X12_readAny_33 k9 0 x1 x2 x3 σ = if (σ 0 30) = (8 : Int32) then (wg_bd (f_X12_errs 0 (3 : Int32) σ) q_X12_readAny_33__1) else (wg_st σ 0 30 ((σ 0 30) + (1 : Int32)) (q_X12_readAny_33__2 k9 x1 x2 x3)) := rfl
def q_X12_readAny_9__22 (n : Nat) (x1 : Int32) (_u22 : Int32) (s29 : wg_M) : Option (Int32 × wg_M) := f_X12_readAny_9  n 0 x1 (0 : Int32) s29
def q_X12_readAny_9__21 (n : Nat) (x1 : Int32) (v27 : Int32) (s28 : wg_M) : Option (Int32 × wg_M) := if v27 = (-1 : Int32) then (some ((-1 : Int32), s28)) else (wg_bd (f_X12_settles 0 (9 : Int32) s28) (q_X12_readAny_9__22 n x1))
def q_X12_readAny_9__20 (n : Nat) (x1 : Int32) (x2 : Int32) (v23 : Int32) (v25 : Int32) (s26 : wg_M) : Option (Int32 × wg_M) := if v25 = 0 then (wg_bd (f_X12_readCompared 0 s26) (q_X12_readAny_9__21 n x1)) else (f_X12_readAny_33 (f_X12_readAny_9  n) 0 x1 x2 v23 s26)
def q_X12_readAny_9__19 (n : Nat) (x1 : Int32) (x2 : Int32) (v23 : Int32) (s24 : wg_M) : Option (Int32 × wg_M) := if v23 = 0 then (wg_bd (f_X12_isSign 0 (40 : Int32) s24) (q_X12_readAny_9__20 n x1 x2 v23)) else (f_X12_readAny_33 (f_X12_readAny_9  n) 0 x1 x2 v23 s24)
def q_X12_readAny_9__18 (n : Nat) (x1 : Int32) (_u18 : Int32) (s22 : wg_M) : Option (Int32 × wg_M) := f_X12_readAny_9  n 0 x1 (1 : Int32) s22
def q_X12_readAny_9__17 (n : Nat) (x1 : Int32) (_u17 : Int32) (s21 : wg_M) : Option (Int32 × wg_M) := wg_bd (f_X12_reads 0 s21) (q_X12_readAny_9__18 n x1)
def q_X12_readAny_9__16 (n : Nat) (x1 : Int32) (_u16 : Int32) (s20 : wg_M) : Option (Int32 × wg_M) := wg_bd (f_X12_waits 0 (10 : Int32) s20) (q_X12_readAny_9__17 n x1)
def q_X12_readAny_9__15 (n : Nat) (x1 : Int32) (_u15 : Int32) (s19 : wg_M) : Option (Int32 × wg_M) := f_X12_readAny_9  n 0 x1 (1 : Int32) s19
def q_X12_readAny_9__14 (n : Nat) (x1 : Int32) (_u14 : Int32) (s18 : wg_M) : Option (Int32 × wg_M) := wg_bd (f_X12_reads 0 s18) (q_X12_readAny_9__15 n x1)
def q_X12_readAny_9__13 (n : Nat) (x1 : Int32) (_u13 : Int32) (s17 : wg_M) : Option (Int32 × wg_M) := wg_bd (f_X12_waits 0 (11 : Int32) s17) (q_X12_readAny_9__14 n x1)
def q_X12_readAny_9__12 (n : Nat) (x1 : Int32) (_u12 : Int32) (s16 : wg_M) : Option (Int32 × wg_M) := wg_bd (f_X12_settles 0 (11 : Int32) s16) (q_X12_readAny_9__13 n x1)
def q_X12_readAny_9__11 (n : Nat) (x2 : Int32) (v10 : Int32) (_u11 : Int32) (s13 : wg_M) : Option (Int32 × wg_M) := f_X12_readAny_9  n 0 v10 x2 s13
def q_X12_readAny_9__10 (n : Nat) (x2 : Int32) (v10 : Int32) (_u10 : Int32) (s12 : wg_M) : Option (Int32 × wg_M) := wg_bd (f_X12_reads 0 s12) (q_X12_readAny_9__11 n x2 v10)
def q_X12_readAny_9__9 (n : Nat) (x2 : Int32) (v10 : Int32) (s11 : wg_M) : Option (Int32 × wg_M) := wg_bd (f_X12_settles 0 (9 : Int32) s11) (q_X12_readAny_9__10 n x2 v10)
def q_X12_readAny_9__8 (n : Nat) (x2 : Int32) (s9 : wg_M) (v10 : Int32) : Option (Int32 × wg_M) := wg_st s9 0 30 ((s9 0 30) - (1 : Int32)) (q_X12_readAny_9__9 n x2 v10)
def q_X12_readAny_9__7 (n : Nat) (x1 : Int32) (x2 : Int32) (s9 : wg_M) : Option (Int32 × wg_M) := wg_let (x1 - (1 : Int32)) (q_X12_readAny_9__8 n x2 s9)
def q_X12_readAny_9__6 (v14 : Int32) (s15 : wg_M) : Option (Int32 × wg_M) := some (v14, s15)
def q_X12_readAny_9__5 (n : Nat) (x1 : Int32) (x2 : Int32) (v7 : Int32) (s8 : wg_M) : Option (Int32 × wg_M) := if v7 = 0 then (wg_bd (f_X12_errs 0 (1 : Int32) s8) q_X12_readAny_9__6) else (wg_st s8 0 32 ((s8 0 32) - (1 : Int32)) (q_X12_readAny_9__7 n x1 x2))
def q_X12_readAny_9__4 (n : Nat) (x1 : Int32) (x2 : Int32) (_u4 : Int32) (s6 : wg_M) : Option (Int32 × wg_M) := if x1 = 0 then (some ((0 : Int32), s6)) else (wg_bd (f_X12_isSign 0 (41 : Int32) s6) (q_X12_readAny_9__5 n x1 x2))
def q_X12_readAny_9__3 (n : Nat) (x1 : Int32) (x2 : Int32) (_u3 : Int32) (s5 : wg_M) : Option (Int32 × wg_M) := wg_bd (f_X12_settles 0 (11 : Int32) s5) (q_X12_readAny_9__4 n x1 x2)
def q_X12_readAny_9__2 (n : Nat) (x1 : Int32) (x2 : Int32) (v3 : Int32) (s4 : wg_M) : Option (Int32 × wg_M) := if v3 = 0 then (wg_bd (f_X12_settles 0 (10 : Int32) s4) (q_X12_readAny_9__3 n x1 x2)) else (wg_bd (f_X12_settles 0 (10 : Int32) s4) (q_X12_readAny_9__12 n x1))
def q_X12_readAny_9__1 (n : Nat) (x1 : Int32) (x2 : Int32) (v1 : Int32) (s2 : wg_M) : Option (Int32 × wg_M) := if v1 = 0 then (wg_bd (f_X12_isWord 0 (4 : Int32) s2) (q_X12_readAny_9__2 n x1 x2)) else (wg_bd (f_X12_settles 0 (10 : Int32) s2) (q_X12_readAny_9__16 n x1))
theorem e_X12_readAny_9__1 (n : Nat) (x1 : Int32) (x2 : Int32) (v1 : Int32) (s2 : wg_M) : q_X12_readAny_9__1 n x1 x2 v1 s2 = if v1 = 0 then (wg_bd (f_X12_isWord 0 (4 : Int32) s2) (q_X12_readAny_9__2 n x1 x2)) else (wg_bd (f_X12_settles 0 (10 : Int32) s2) (q_X12_readAny_9__16 n x1)) := rfl
theorem e_X12_readAny_9__2 (n : Nat) (x1 : Int32) (x2 : Int32) (v3 : Int32) (s4 : wg_M) : q_X12_readAny_9__2 n x1 x2 v3 s4 = if v3 = 0 then (wg_bd (f_X12_settles 0 (10 : Int32) s4) (q_X12_readAny_9__3 n x1 x2)) else (wg_bd (f_X12_settles 0 (10 : Int32) s4) (q_X12_readAny_9__12 n x1)) := rfl
theorem e_X12_readAny_9__3 (n : Nat) (x1 : Int32) (x2 : Int32) (_u3 : Int32) (s5 : wg_M) : q_X12_readAny_9__3 n x1 x2 _u3 s5 = wg_bd (f_X12_settles 0 (11 : Int32) s5) (q_X12_readAny_9__4 n x1 x2) := rfl
theorem e_X12_readAny_9__4 (n : Nat) (x1 : Int32) (x2 : Int32) (_u4 : Int32) (s6 : wg_M) : q_X12_readAny_9__4 n x1 x2 _u4 s6 = if x1 = 0 then (some ((0 : Int32), s6)) else (wg_bd (f_X12_isSign 0 (41 : Int32) s6) (q_X12_readAny_9__5 n x1 x2)) := rfl
theorem e_X12_readAny_9__5 (n : Nat) (x1 : Int32) (x2 : Int32) (v7 : Int32) (s8 : wg_M) : q_X12_readAny_9__5 n x1 x2 v7 s8 = if v7 = 0 then (wg_bd (f_X12_errs 0 (1 : Int32) s8) q_X12_readAny_9__6) else (wg_st s8 0 32 ((s8 0 32) - (1 : Int32)) (q_X12_readAny_9__7 n x1 x2)) := rfl
theorem e_X12_readAny_9__6 (v14 : Int32) (s15 : wg_M) : q_X12_readAny_9__6 v14 s15 = some (v14, s15) := rfl
theorem e_X12_readAny_9__7 (n : Nat) (x1 : Int32) (x2 : Int32) (s9 : wg_M) : q_X12_readAny_9__7 n x1 x2 s9 = wg_let (x1 - (1 : Int32)) (q_X12_readAny_9__8 n x2 s9) := rfl
theorem e_X12_readAny_9__8 (n : Nat) (x2 : Int32) (s9 : wg_M) (v10 : Int32) : q_X12_readAny_9__8 n x2 s9 v10 = wg_st s9 0 30 ((s9 0 30) - (1 : Int32)) (q_X12_readAny_9__9 n x2 v10) := rfl
theorem e_X12_readAny_9__9 (n : Nat) (x2 : Int32) (v10 : Int32) (s11 : wg_M) : q_X12_readAny_9__9 n x2 v10 s11 = wg_bd (f_X12_settles 0 (9 : Int32) s11) (q_X12_readAny_9__10 n x2 v10) := rfl
theorem e_X12_readAny_9__10 (n : Nat) (x2 : Int32) (v10 : Int32) (_u10 : Int32) (s12 : wg_M) : q_X12_readAny_9__10 n x2 v10 _u10 s12 = wg_bd (f_X12_reads 0 s12) (q_X12_readAny_9__11 n x2 v10) := rfl
theorem e_X12_readAny_9__11 (n : Nat) (x2 : Int32) (v10 : Int32) (_u11 : Int32) (s13 : wg_M) : q_X12_readAny_9__11 n x2 v10 _u11 s13 = f_X12_readAny_9  n 0 v10 x2 s13 := rfl
theorem e_X12_readAny_9__12 (n : Nat) (x1 : Int32) (_u12 : Int32) (s16 : wg_M) : q_X12_readAny_9__12 n x1 _u12 s16 = wg_bd (f_X12_settles 0 (11 : Int32) s16) (q_X12_readAny_9__13 n x1) := rfl
theorem e_X12_readAny_9__13 (n : Nat) (x1 : Int32) (_u13 : Int32) (s17 : wg_M) : q_X12_readAny_9__13 n x1 _u13 s17 = wg_bd (f_X12_waits 0 (11 : Int32) s17) (q_X12_readAny_9__14 n x1) := rfl
theorem e_X12_readAny_9__14 (n : Nat) (x1 : Int32) (_u14 : Int32) (s18 : wg_M) : q_X12_readAny_9__14 n x1 _u14 s18 = wg_bd (f_X12_reads 0 s18) (q_X12_readAny_9__15 n x1) := rfl
theorem e_X12_readAny_9__15 (n : Nat) (x1 : Int32) (_u15 : Int32) (s19 : wg_M) : q_X12_readAny_9__15 n x1 _u15 s19 = f_X12_readAny_9  n 0 x1 (1 : Int32) s19 := rfl
theorem e_X12_readAny_9__16 (n : Nat) (x1 : Int32) (_u16 : Int32) (s20 : wg_M) : q_X12_readAny_9__16 n x1 _u16 s20 = wg_bd (f_X12_waits 0 (10 : Int32) s20) (q_X12_readAny_9__17 n x1) := rfl
theorem e_X12_readAny_9__17 (n : Nat) (x1 : Int32) (_u17 : Int32) (s21 : wg_M) : q_X12_readAny_9__17 n x1 _u17 s21 = wg_bd (f_X12_reads 0 s21) (q_X12_readAny_9__18 n x1) := rfl
theorem e_X12_readAny_9__18 (n : Nat) (x1 : Int32) (_u18 : Int32) (s22 : wg_M) : q_X12_readAny_9__18 n x1 _u18 s22 = f_X12_readAny_9  n 0 x1 (1 : Int32) s22 := rfl
theorem e_X12_readAny_9__19 (n : Nat) (x1 : Int32) (x2 : Int32) (v23 : Int32) (s24 : wg_M) : q_X12_readAny_9__19 n x1 x2 v23 s24 = if v23 = 0 then (wg_bd (f_X12_isSign 0 (40 : Int32) s24) (q_X12_readAny_9__20 n x1 x2 v23)) else (f_X12_readAny_33 (f_X12_readAny_9  n) 0 x1 x2 v23 s24) := rfl
theorem e_X12_readAny_9__20 (n : Nat) (x1 : Int32) (x2 : Int32) (v23 : Int32) (v25 : Int32) (s26 : wg_M) : q_X12_readAny_9__20 n x1 x2 v23 v25 s26 = if v25 = 0 then (wg_bd (f_X12_readCompared 0 s26) (q_X12_readAny_9__21 n x1)) else (f_X12_readAny_33 (f_X12_readAny_9  n) 0 x1 x2 v23 s26) := rfl
theorem e_X12_readAny_9__21 (n : Nat) (x1 : Int32) (v27 : Int32) (s28 : wg_M) : q_X12_readAny_9__21 n x1 v27 s28 = if v27 = (-1 : Int32) then (some ((-1 : Int32), s28)) else (wg_bd (f_X12_settles 0 (9 : Int32) s28) (q_X12_readAny_9__22 n x1)) := rfl
theorem e_X12_readAny_9__22 (n : Nat) (x1 : Int32) (_u22 : Int32) (s29 : wg_M) : q_X12_readAny_9__22 n x1 _u22 s29 = f_X12_readAny_9  n 0 x1 (0 : Int32) s29 := rfl
theorem e_X12_readAny_9 (n : Nat) (x1 : Int32) (x2 : Int32) (σ : wg_M) : f_X12_readAny_9 (n + 1) 0 x1 x2 σ = if x2 = 0 then (wg_bd (f_X12_isWord 0 (5 : Int32) σ) (q_X12_readAny_9__1 n x1 x2)) else (wg_bd (f_X12_isWord 0 (6 : Int32) σ) (q_X12_readAny_9__19 n x1 x2)) := by
  rw [f_X12_readAny_9]
  rfl
def q_X12_readAny__1 (s1 : wg_M) : Option (Int32 × wg_M) := f_X12_readAny_9  wg_N 0 (0 : Int32) (1 : Int32) s1
theorem e_X12_readAny__1 (s1 : wg_M) : q_X12_readAny__1 s1 = f_X12_readAny_9  wg_N 0 (0 : Int32) (1 : Int32) s1 := rfl
theorem e_X12_readAny (σ : wg_M) : f_X12_readAny 0 σ = wg_st σ 0 32 (0 : Int32) q_X12_readAny__1 := rfl
def q_X12_isLineWord__1 (v1 : Int32) (s2 : wg_M) : Option (Int32 × wg_M) := if v1 = 0 then (some ((0 : Int32), s2)) else (some ((1 : Int32), s2))
theorem e_X12_isLineWord__1 (v1 : Int32) (s2 : wg_M) : q_X12_isLineWord__1 v1 s2 = if v1 = 0 then (some ((0 : Int32), s2)) else (some ((1 : Int32), s2)) := rfl
theorem e_X12_isLineWord (σ : wg_M) : f_X12_isLineWord 0 σ = if (σ 0 18) = (2 : Int32) then (wg_bd (f_X12_isIn 0 (σ 0 19) (0 : Int32) (2 : Int32) σ) q_X12_isLineWord__1) else (some ((0 : Int32), σ)) := rfl
def q_X12_readLaw_92__5 (k2 : Nat → Int32 → wg_M → Option (Int32 × wg_M)) (s4 : wg_M) (v5 : Int32) : Option (Int32 × wg_M) := k2 0 v5 s4
def q_X12_readLaw_92__4 (k2 : Nat → Int32 → wg_M → Option (Int32 × wg_M)) (x1 : Int32) (_u4 : Int32) (s4 : wg_M) : Option (Int32 × wg_M) := wg_let (x1 + (1 : Int32)) (q_X12_readLaw_92__5 k2 s4)
def q_X12_readLaw_92__3 (v6 : Int32) (s7 : wg_M) : Option (Int32 × wg_M) := some (v6, s7)
def q_X12_readLaw_92__2 (k2 : Nat → Int32 → wg_M → Option (Int32 × wg_M)) (x1 : Int32) (v2 : Int32) (s3 : wg_M) : Option (Int32 × wg_M) := if v2 = 0 then (wg_bd (f_X12_errs 0 (1 : Int32) s3) q_X12_readLaw_92__3) else (wg_bd (f_X12_reads 0 s3) (q_X12_readLaw_92__4 k2 x1))
def q_X12_readLaw_92__1 (k2 : Nat → Int32 → wg_M → Option (Int32 × wg_M)) (x1 : Int32) (s1 : wg_M) : Option (Int32 × wg_M) := wg_bd (f_X12_isSign 0 (59 : Int32) s1) (q_X12_readLaw_92__2 k2 x1)
theorem e_X12_readLaw_92__1 (k2 : Nat → Int32 → wg_M → Option (Int32 × wg_M)) (x1 : Int32) (s1 : wg_M) : q_X12_readLaw_92__1 k2 x1 s1 = wg_bd (f_X12_isSign 0 (59 : Int32) s1) (q_X12_readLaw_92__2 k2 x1) := rfl
theorem e_X12_readLaw_92__2 (k2 : Nat → Int32 → wg_M → Option (Int32 × wg_M)) (x1 : Int32) (v2 : Int32) (s3 : wg_M) : q_X12_readLaw_92__2 k2 x1 v2 s3 = if v2 = 0 then (wg_bd (f_X12_errs 0 (1 : Int32) s3) q_X12_readLaw_92__3) else (wg_bd (f_X12_reads 0 s3) (q_X12_readLaw_92__4 k2 x1)) := rfl
theorem e_X12_readLaw_92__3 (v6 : Int32) (s7 : wg_M) : q_X12_readLaw_92__3 v6 s7 = some (v6, s7) := rfl
theorem e_X12_readLaw_92__4 (k2 : Nat → Int32 → wg_M → Option (Int32 × wg_M)) (x1 : Int32) (_u4 : Int32) (s4 : wg_M) : q_X12_readLaw_92__4 k2 x1 _u4 s4 = wg_let (x1 + (1 : Int32)) (q_X12_readLaw_92__5 k2 s4) := rfl
theorem e_X12_readLaw_92__5 (k2 : Nat → Int32 → wg_M → Option (Int32 × wg_M)) (s4 : wg_M) (v5 : Int32) : q_X12_readLaw_92__5 k2 s4 v5 = k2 0 v5 s4 := rfl
theorem e_X12_readLaw_92 (k2 : Nat → Int32 → wg_M → Option (Int32 × wg_M)) (x1 : Int32) (x2 : Int32) (σ : wg_M) : f_X12_readLaw_92 k2 0 x1 x2 σ = wg_sa 48 σ 15 x2 (σ 0 29) (q_X12_readLaw_92__1 k2 x1) := by
  unfold f_X12_readLaw_92
  simp only [sm_n15, sm_r0_25]
  rfl
def q_X12_readLaw_2__12 (n : Nat) (x1 : Int32) (v5 : Int32) (v15 : Int32) (s16 : wg_M) : Option (Int32 × wg_M) := if v15 = (-1 : Int32) then (some ((-1 : Int32), s16)) else (f_X12_readLaw_92 (f_X12_readLaw_2  n) 0 x1 v5 s16)
def q_X12_readLaw_2__11 (n : Nat) (x1 : Int32) (v5 : Int32) (_u11 : Int32) (s14 : wg_M) : Option (Int32 × wg_M) := wg_bd (f_X12_readAny 0 s14) (q_X12_readLaw_2__12 n x1 v5)
def q_X12_readLaw_2__10 (n : Nat) (x1 : Int32) (v5 : Int32) (v12 : Int32) (s13 : wg_M) : Option (Int32 × wg_M) := if v12 = 0 then (f_X12_readLaw_92 (f_X12_readLaw_2  n) 0 x1 v5 s13) else (wg_bd (f_X12_reads 0 s13) (q_X12_readLaw_2__11 n x1 v5))
def q_X12_readLaw_2__9 (n : Nat) (x1 : Int32) (v5 : Int32) (s11 : wg_M) : Option (Int32 × wg_M) := wg_bd (f_X12_isWord 0 (3 : Int32) s11) (q_X12_readLaw_2__10 n x1 v5)
def q_X12_readLaw_2__8 (n : Nat) (x1 : Int32) (v5 : Int32) (v9 : Int32) (s10 : wg_M) : Option (Int32 × wg_M) := if v9 = (-1 : Int32) then (some ((-1 : Int32), s10)) else (wg_sa 48 s10 14 v5 (s10 0 29) (q_X12_readLaw_2__9 n x1 v5))
def q_X12_readLaw_2__7 (n : Nat) (x1 : Int32) (v5 : Int32) (s8 : wg_M) : Option (Int32 × wg_M) := wg_bd (f_X12_readSum 0 s8) (q_X12_readLaw_2__8 n x1 v5)
def q_X12_readLaw_2__6 (n : Nat) (x1 : Int32) (v5 : Int32) (_u6 : Int32) (s7 : wg_M) : Option (Int32 × wg_M) := wg_sa 48 s7 13 v5 (s7 0 29) (q_X12_readLaw_2__7 n x1 v5)
def q_X12_readLaw_2__5 (n : Nat) (x1 : Int32) (v5 : Int32) (s6 : wg_M) : Option (Int32 × wg_M) := wg_bd (f_X12_reads 0 s6) (q_X12_readLaw_2__6 n x1 v5)
def q_X12_readLaw_2__4 (n : Nat) (x1 : Int32) (s2 : wg_M) (v5 : Int32) : Option (Int32 × wg_M) := wg_sa 48 s2 12 v5 (s2 0 19) (q_X12_readLaw_2__5 n x1 v5)
def q_X12_readLaw_2__3 (v17 : Int32) (s18 : wg_M) : Option (Int32 × wg_M) := some (v17, s18)
def q_X12_readLaw_2__2 (v3 : Int32) (s4 : wg_M) : Option (Int32 × wg_M) := some (v3, s4)
def q_X12_readLaw_2__1 (n : Nat) (x1 : Int32) (v1 : Int32) (s2 : wg_M) : Option (Int32 × wg_M) := if v1 = 0 then (if (s2 0 18) = 0 then (some (x1, s2)) else (wg_bd (f_X12_errs 0 (1 : Int32) s2) q_X12_readLaw_2__2)) else (if x1 = (16 : Int32) then (wg_bd (f_X12_errs 0 (3 : Int32) s2) q_X12_readLaw_2__3) else (wg_let ((32 : Int32) + x1) (q_X12_readLaw_2__4 n x1 s2)))
theorem e_X12_readLaw_2__1 (n : Nat) (x1 : Int32) (v1 : Int32) (s2 : wg_M) : q_X12_readLaw_2__1 n x1 v1 s2 = if v1 = 0 then (if (s2 0 18) = 0 then (some (x1, s2)) else (wg_bd (f_X12_errs 0 (1 : Int32) s2) q_X12_readLaw_2__2)) else (if x1 = (16 : Int32) then (wg_bd (f_X12_errs 0 (3 : Int32) s2) q_X12_readLaw_2__3) else (wg_let ((32 : Int32) + x1) (q_X12_readLaw_2__4 n x1 s2))) := rfl
theorem e_X12_readLaw_2__2 (v3 : Int32) (s4 : wg_M) : q_X12_readLaw_2__2 v3 s4 = some (v3, s4) := rfl
theorem e_X12_readLaw_2__3 (v17 : Int32) (s18 : wg_M) : q_X12_readLaw_2__3 v17 s18 = some (v17, s18) := rfl
theorem e_X12_readLaw_2__4 (n : Nat) (x1 : Int32) (s2 : wg_M) (v5 : Int32) : q_X12_readLaw_2__4 n x1 s2 v5 = wg_sa 48 s2 12 v5 (s2 0 19) (q_X12_readLaw_2__5 n x1 v5) := rfl
theorem e_X12_readLaw_2__5 (n : Nat) (x1 : Int32) (v5 : Int32) (s6 : wg_M) : q_X12_readLaw_2__5 n x1 v5 s6 = wg_bd (f_X12_reads 0 s6) (q_X12_readLaw_2__6 n x1 v5) := rfl
theorem e_X12_readLaw_2__6 (n : Nat) (x1 : Int32) (v5 : Int32) (_u6 : Int32) (s7 : wg_M) : q_X12_readLaw_2__6 n x1 v5 _u6 s7 = wg_sa 48 s7 13 v5 (s7 0 29) (q_X12_readLaw_2__7 n x1 v5) := rfl
theorem e_X12_readLaw_2__7 (n : Nat) (x1 : Int32) (v5 : Int32) (s8 : wg_M) : q_X12_readLaw_2__7 n x1 v5 s8 = wg_bd (f_X12_readSum 0 s8) (q_X12_readLaw_2__8 n x1 v5) := rfl
theorem e_X12_readLaw_2__8 (n : Nat) (x1 : Int32) (v5 : Int32) (v9 : Int32) (s10 : wg_M) : q_X12_readLaw_2__8 n x1 v5 v9 s10 = if v9 = (-1 : Int32) then (some ((-1 : Int32), s10)) else (wg_sa 48 s10 14 v5 (s10 0 29) (q_X12_readLaw_2__9 n x1 v5)) := rfl
theorem e_X12_readLaw_2__9 (n : Nat) (x1 : Int32) (v5 : Int32) (s11 : wg_M) : q_X12_readLaw_2__9 n x1 v5 s11 = wg_bd (f_X12_isWord 0 (3 : Int32) s11) (q_X12_readLaw_2__10 n x1 v5) := rfl
theorem e_X12_readLaw_2__10 (n : Nat) (x1 : Int32) (v5 : Int32) (v12 : Int32) (s13 : wg_M) : q_X12_readLaw_2__10 n x1 v5 v12 s13 = if v12 = 0 then (f_X12_readLaw_92 (f_X12_readLaw_2  n) 0 x1 v5 s13) else (wg_bd (f_X12_reads 0 s13) (q_X12_readLaw_2__11 n x1 v5)) := rfl
theorem e_X12_readLaw_2__11 (n : Nat) (x1 : Int32) (v5 : Int32) (_u11 : Int32) (s14 : wg_M) : q_X12_readLaw_2__11 n x1 v5 _u11 s14 = wg_bd (f_X12_readAny 0 s14) (q_X12_readLaw_2__12 n x1 v5) := rfl
theorem e_X12_readLaw_2__12 (n : Nat) (x1 : Int32) (v5 : Int32) (v15 : Int32) (s16 : wg_M) : q_X12_readLaw_2__12 n x1 v5 v15 s16 = if v15 = (-1 : Int32) then (some ((-1 : Int32), s16)) else (f_X12_readLaw_92 (f_X12_readLaw_2  n) 0 x1 v5 s16) := rfl
theorem e_X12_readLaw_2 (n : Nat) (x1 : Int32) (σ : wg_M) : f_X12_readLaw_2 (n + 1) 0 x1 σ = wg_bd (f_X12_isLineWord 0 σ) (q_X12_readLaw_2__1 n x1) := by
  rw [f_X12_readLaw_2]
  simp only [sm_n12, sm_n13, sm_n14, sm_r0_22, sm_r0_23, sm_r0_24]
  rfl
theorem e_X12_readLaw (σ : wg_M) : f_X12_readLaw 0 σ = f_X12_readLaw_2  wg_N 0 (0 : Int32) σ := rfl
def q_X12_takesLaw_107__6 (n : Nat) (x1 : Int32) (s5 : wg_M) (v6 : Int32) : Option (Int32 × wg_M) := f_X12_takesLaw_107  n 0 x1 v6 s5
def q_X12_takesLaw_107__5 (n : Nat) (x1 : Int32) (x2 : Int32) (s5 : wg_M) : Option (Int32 × wg_M) := wg_let (x2 + (1 : Int32)) (q_X12_takesLaw_107__6 n x1 s5)
def q_X12_takesLaw_107__4 (n : Nat) (x1 : Int32) (x2 : Int32) (s3 : wg_M) (v4 : Int32) : Option (Int32 × wg_M) := wg_sa 1200 s3 17 (((400 : Int32) * (s3 0 28)) + x2) v4 (q_X12_takesLaw_107__5 n x1 x2)
def q_X12_takesLaw_107__3 (n : Nat) (x1 : Int32) (x2 : Int32) (s3 : wg_M) : Option (Int32 × wg_M) := wg_ga 1200 (s3 17) ((800 : Int32) + x2) (q_X12_takesLaw_107__4 n x1 x2 s3)
def q_X12_takesLaw_107__2 (n : Nat) (x1 : Int32) (x2 : Int32) (σ : wg_M) (v2 : Int32) : Option (Int32 × wg_M) := wg_sa 1200 σ 16 (((400 : Int32) * (σ 0 28)) + x2) v2 (q_X12_takesLaw_107__3 n x1 x2)
def q_X12_takesLaw_107__1 (s1 : wg_M) : Option (Int32 × wg_M) := some (0, s1)
theorem e_X12_takesLaw_107__1 (s1 : wg_M) : q_X12_takesLaw_107__1 s1 = some (0, s1) := rfl
theorem e_X12_takesLaw_107__2 (n : Nat) (x1 : Int32) (x2 : Int32) (σ : wg_M) (v2 : Int32) : q_X12_takesLaw_107__2 n x1 x2 σ v2 = wg_sa 1200 σ 16 (((400 : Int32) * (σ 0 28)) + x2) v2 (q_X12_takesLaw_107__3 n x1 x2) := rfl
theorem e_X12_takesLaw_107__3 (n : Nat) (x1 : Int32) (x2 : Int32) (s3 : wg_M) : q_X12_takesLaw_107__3 n x1 x2 s3 = wg_ga 1200 (s3 17) ((800 : Int32) + x2) (q_X12_takesLaw_107__4 n x1 x2 s3) := rfl
theorem e_X12_takesLaw_107__4 (n : Nat) (x1 : Int32) (x2 : Int32) (s3 : wg_M) (v4 : Int32) : q_X12_takesLaw_107__4 n x1 x2 s3 v4 = wg_sa 1200 s3 17 (((400 : Int32) * (s3 0 28)) + x2) v4 (q_X12_takesLaw_107__5 n x1 x2) := rfl
theorem e_X12_takesLaw_107__5 (n : Nat) (x1 : Int32) (x2 : Int32) (s5 : wg_M) : q_X12_takesLaw_107__5 n x1 x2 s5 = wg_let (x2 + (1 : Int32)) (q_X12_takesLaw_107__6 n x1 s5) := rfl
theorem e_X12_takesLaw_107__6 (n : Nat) (x1 : Int32) (s5 : wg_M) (v6 : Int32) : q_X12_takesLaw_107__6 n x1 s5 v6 = f_X12_takesLaw_107  n 0 x1 v6 s5 := rfl
theorem e_X12_takesLaw_107 (n : Nat) (x1 : Int32) (x2 : Int32) (σ : wg_M) : f_X12_takesLaw_107 (n + 1) 0 x1 x2 σ = if (σ 0 29) ≤ x2 then (wg_sa 2 σ 11 (σ 0 28) x1 q_X12_takesLaw_107__1) else (wg_ga 1200 (σ 16) ((800 : Int32) + x2) (q_X12_takesLaw_107__2 n x1 x2 σ)) := by
  rw [f_X12_takesLaw_107]
  simp only [sm_n11, sm_n16, sm_n17, sm_r0_21, sm_r0_26, sm_r0_27]
  rfl
def q_X12_takesLaw_2__9 (n : Nat) (x1 : Int32) (s8 : wg_M) (v9 : Int32) : Option (Int32 × wg_M) := f_X12_takesLaw_2  n 0 x1 v9 s8
def q_X12_takesLaw_2__8 (n : Nat) (x1 : Int32) (x2 : Int32) (s8 : wg_M) : Option (Int32 × wg_M) := wg_let (x2 + (1 : Int32)) (q_X12_takesLaw_2__9 n x1 s8)
def q_X12_takesLaw_2__7 (n : Nat) (x1 : Int32) (x2 : Int32) (s6 : wg_M) (v7 : Int32) : Option (Int32 × wg_M) := wg_sa 48 s6 15 (((16 : Int32) * (s6 0 28)) + x2) v7 (q_X12_takesLaw_2__8 n x1 x2)
def q_X12_takesLaw_2__6 (n : Nat) (x1 : Int32) (x2 : Int32) (s6 : wg_M) : Option (Int32 × wg_M) := wg_ga 48 (s6 15) ((32 : Int32) + x2) (q_X12_takesLaw_2__7 n x1 x2 s6)
def q_X12_takesLaw_2__5 (n : Nat) (x1 : Int32) (x2 : Int32) (s4 : wg_M) (v5 : Int32) : Option (Int32 × wg_M) := wg_sa 48 s4 14 (((16 : Int32) * (s4 0 28)) + x2) v5 (q_X12_takesLaw_2__6 n x1 x2)
def q_X12_takesLaw_2__4 (n : Nat) (x1 : Int32) (x2 : Int32) (s4 : wg_M) : Option (Int32 × wg_M) := wg_ga 48 (s4 14) ((32 : Int32) + x2) (q_X12_takesLaw_2__5 n x1 x2 s4)
def q_X12_takesLaw_2__3 (n : Nat) (x1 : Int32) (x2 : Int32) (s2 : wg_M) (v3 : Int32) : Option (Int32 × wg_M) := wg_sa 48 s2 13 (((16 : Int32) * (s2 0 28)) + x2) v3 (q_X12_takesLaw_2__4 n x1 x2)
def q_X12_takesLaw_2__2 (n : Nat) (x1 : Int32) (x2 : Int32) (s2 : wg_M) : Option (Int32 × wg_M) := wg_ga 48 (s2 13) ((32 : Int32) + x2) (q_X12_takesLaw_2__3 n x1 x2 s2)
def q_X12_takesLaw_2__1 (n : Nat) (x1 : Int32) (x2 : Int32) (σ : wg_M) (v1 : Int32) : Option (Int32 × wg_M) := wg_sa 48 σ 12 (((16 : Int32) * (σ 0 28)) + x2) v1 (q_X12_takesLaw_2__2 n x1 x2)
theorem e_X12_takesLaw_2__1 (n : Nat) (x1 : Int32) (x2 : Int32) (σ : wg_M) (v1 : Int32) : q_X12_takesLaw_2__1 n x1 x2 σ v1 = wg_sa 48 σ 12 (((16 : Int32) * (σ 0 28)) + x2) v1 (q_X12_takesLaw_2__2 n x1 x2) := rfl
theorem e_X12_takesLaw_2__2 (n : Nat) (x1 : Int32) (x2 : Int32) (s2 : wg_M) : q_X12_takesLaw_2__2 n x1 x2 s2 = wg_ga 48 (s2 13) ((32 : Int32) + x2) (q_X12_takesLaw_2__3 n x1 x2 s2) := rfl
theorem e_X12_takesLaw_2__3 (n : Nat) (x1 : Int32) (x2 : Int32) (s2 : wg_M) (v3 : Int32) : q_X12_takesLaw_2__3 n x1 x2 s2 v3 = wg_sa 48 s2 13 (((16 : Int32) * (s2 0 28)) + x2) v3 (q_X12_takesLaw_2__4 n x1 x2) := rfl
theorem e_X12_takesLaw_2__4 (n : Nat) (x1 : Int32) (x2 : Int32) (s4 : wg_M) : q_X12_takesLaw_2__4 n x1 x2 s4 = wg_ga 48 (s4 14) ((32 : Int32) + x2) (q_X12_takesLaw_2__5 n x1 x2 s4) := rfl
theorem e_X12_takesLaw_2__5 (n : Nat) (x1 : Int32) (x2 : Int32) (s4 : wg_M) (v5 : Int32) : q_X12_takesLaw_2__5 n x1 x2 s4 v5 = wg_sa 48 s4 14 (((16 : Int32) * (s4 0 28)) + x2) v5 (q_X12_takesLaw_2__6 n x1 x2) := rfl
theorem e_X12_takesLaw_2__6 (n : Nat) (x1 : Int32) (x2 : Int32) (s6 : wg_M) : q_X12_takesLaw_2__6 n x1 x2 s6 = wg_ga 48 (s6 15) ((32 : Int32) + x2) (q_X12_takesLaw_2__7 n x1 x2 s6) := rfl
theorem e_X12_takesLaw_2__7 (n : Nat) (x1 : Int32) (x2 : Int32) (s6 : wg_M) (v7 : Int32) : q_X12_takesLaw_2__7 n x1 x2 s6 v7 = wg_sa 48 s6 15 (((16 : Int32) * (s6 0 28)) + x2) v7 (q_X12_takesLaw_2__8 n x1 x2) := rfl
theorem e_X12_takesLaw_2__8 (n : Nat) (x1 : Int32) (x2 : Int32) (s8 : wg_M) : q_X12_takesLaw_2__8 n x1 x2 s8 = wg_let (x2 + (1 : Int32)) (q_X12_takesLaw_2__9 n x1 s8) := rfl
theorem e_X12_takesLaw_2__9 (n : Nat) (x1 : Int32) (s8 : wg_M) (v9 : Int32) : q_X12_takesLaw_2__9 n x1 s8 v9 = f_X12_takesLaw_2  n 0 x1 v9 s8 := rfl
theorem e_X12_takesLaw_2 (n : Nat) (x1 : Int32) (x2 : Int32) (σ : wg_M) : f_X12_takesLaw_2 (n + 1) 0 x1 x2 σ = if x1 ≤ x2 then (f_X12_takesLaw_107  wg_N 0 x1 (0 : Int32) σ) else (wg_ga 48 (σ 12) ((32 : Int32) + x2) (q_X12_takesLaw_2__1 n x1 x2 σ)) := by
  rw [f_X12_takesLaw_2]
  simp only [sm_n12, sm_n13, sm_n14, sm_n15, sm_r0_22, sm_r0_23, sm_r0_24, sm_r0_25]
  rfl
theorem e_X12_takesLaw (x1 : Int32) (σ : wg_M) : f_X12_takesLaw 0 x1 σ = f_X12_takesLaw_2  wg_N 0 x1 (0 : Int32) σ := rfl
def q_X12_readNumber__5 (v7 : Int32) (s8 : wg_M) : Option (Int32 × wg_M) := some (v7, s8)
def q_X12_readNumber__4 (v3 : Int32) (_u4 : Int32) (s4 : wg_M) : Option (Int32 × wg_M) := some (v3, s4)
def q_X12_readNumber__3 (s2 : wg_M) (v3 : Int32) : Option (Int32 × wg_M) := wg_bd (f_X12_reads 0 s2) (q_X12_readNumber__4 v3)
def q_X12_readNumber__2 (v5 : Int32) (s6 : wg_M) : Option (Int32 × wg_M) := some (v5, s6)
def q_X12_readNumber__1 (v1 : Int32) (s2 : wg_M) : Option (Int32 × wg_M) := if v1 = 0 then (wg_bd (f_X12_errs 0 (2 : Int32) s2) q_X12_readNumber__2) else (wg_let (s2 0 19) (q_X12_readNumber__3 s2))
theorem e_X12_readNumber__1 (v1 : Int32) (s2 : wg_M) : q_X12_readNumber__1 v1 s2 = if v1 = 0 then (wg_bd (f_X12_errs 0 (2 : Int32) s2) q_X12_readNumber__2) else (wg_let (s2 0 19) (q_X12_readNumber__3 s2)) := rfl
theorem e_X12_readNumber__2 (v5 : Int32) (s6 : wg_M) : q_X12_readNumber__2 v5 s6 = some (v5, s6) := rfl
theorem e_X12_readNumber__3 (s2 : wg_M) (v3 : Int32) : q_X12_readNumber__3 s2 v3 = wg_bd (f_X12_reads 0 s2) (q_X12_readNumber__4 v3) := rfl
theorem e_X12_readNumber__4 (v3 : Int32) (_u4 : Int32) (s4 : wg_M) : q_X12_readNumber__4 v3 _u4 s4 = some (v3, s4) := rfl
theorem e_X12_readNumber__5 (v7 : Int32) (s8 : wg_M) : q_X12_readNumber__5 v7 s8 = some (v7, s8) := rfl
theorem e_X12_readNumber (x1 : Int32) (x2 : Int32) (σ : wg_M) : f_X12_readNumber 0 x1 x2 σ = if (σ 0 18) = (3 : Int32) then (wg_bd (f_X12_isIn 0 (σ 0 19) x1 x2 σ) q_X12_readNumber__1) else (wg_bd (f_X12_errs 0 (1 : Int32) σ) q_X12_readNumber__5) := rfl
def q_X12_readMark__3 (_u3 : Int32) (s3 : wg_M) : Option (Int32 × wg_M) := some ((0 : Int32), s3)
def q_X12_readMark__2 (v4 : Int32) (s5 : wg_M) : Option (Int32 × wg_M) := some (v4, s5)
def q_X12_readMark__1 (v1 : Int32) (s2 : wg_M) : Option (Int32 × wg_M) := if v1 = 0 then (wg_bd (f_X12_errs 0 (1 : Int32) s2) q_X12_readMark__2) else (wg_bd (f_X12_reads 0 s2) q_X12_readMark__3)
theorem e_X12_readMark__1 (v1 : Int32) (s2 : wg_M) : q_X12_readMark__1 v1 s2 = if v1 = 0 then (wg_bd (f_X12_errs 0 (1 : Int32) s2) q_X12_readMark__2) else (wg_bd (f_X12_reads 0 s2) q_X12_readMark__3) := rfl
theorem e_X12_readMark__2 (v4 : Int32) (s5 : wg_M) : q_X12_readMark__2 v4 s5 = some (v4, s5) := rfl
theorem e_X12_readMark__3 (_u3 : Int32) (s3 : wg_M) : q_X12_readMark__3 _u3 s3 = some ((0 : Int32), s3) := rfl
theorem e_X12_readMark (x1 : Int32) (σ : wg_M) : f_X12_readMark 0 x1 σ = wg_bd (f_X12_isSign 0 x1 σ) q_X12_readMark__1 := rfl
def q_X12_readTold__4 (v4 : Int32) (s5 : wg_M) : Option (Int32 × wg_M) := some (v4, s5)
def q_X12_readTold__3 (x2 : Int32) (x3 : Int32) (_u3 : Int32) (s3 : wg_M) : Option (Int32 × wg_M) := wg_bd (f_X12_readNumber 0 x2 x3 s3) q_X12_readTold__4
def q_X12_readTold__2 (v6 : Int32) (s7 : wg_M) : Option (Int32 × wg_M) := some (v6, s7)
def q_X12_readTold__1 (x2 : Int32) (x3 : Int32) (v1 : Int32) (s2 : wg_M) : Option (Int32 × wg_M) := if v1 = 0 then (wg_bd (f_X12_errs 0 (1 : Int32) s2) q_X12_readTold__2) else (wg_bd (f_X12_reads 0 s2) (q_X12_readTold__3 x2 x3))
theorem e_X12_readTold__1 (x2 : Int32) (x3 : Int32) (v1 : Int32) (s2 : wg_M) : q_X12_readTold__1 x2 x3 v1 s2 = if v1 = 0 then (wg_bd (f_X12_errs 0 (1 : Int32) s2) q_X12_readTold__2) else (wg_bd (f_X12_reads 0 s2) (q_X12_readTold__3 x2 x3)) := rfl
theorem e_X12_readTold__2 (v6 : Int32) (s7 : wg_M) : q_X12_readTold__2 v6 s7 = some (v6, s7) := rfl
theorem e_X12_readTold__3 (x2 : Int32) (x3 : Int32) (_u3 : Int32) (s3 : wg_M) : q_X12_readTold__3 x2 x3 _u3 s3 = wg_bd (f_X12_readNumber 0 x2 x3 s3) q_X12_readTold__4 := rfl
theorem e_X12_readTold__4 (v4 : Int32) (s5 : wg_M) : q_X12_readTold__4 v4 s5 = some (v4, s5) := rfl
theorem e_X12_readTold (x1 : Int32) (x2 : Int32) (x3 : Int32) (σ : wg_M) : f_X12_readTold 0 x1 x2 x3 σ = wg_bd (f_X12_isWord 0 x1 σ) (q_X12_readTold__1 x2 x3) := rfl
def q_X12_readDocketLine__10 (v13 : Int32) (s14 : wg_M) : Option (Int32 × wg_M) := some (v13, s14)
def q_X12_readDocketLine__9 (s11 : wg_M) (v12 : Int32) : Option (Int32 × wg_M) := if v12 = (-1 : Int32) then (some ((-1 : Int32), s11)) else (wg_bd (f_X12_readMark 0 (59 : Int32) s11) q_X12_readDocketLine__10)
def q_X12_readDocketLine__8 (x1 : Int32) (s11 : wg_M) : Option (Int32 × wg_M) := wg_ga 96 (s11 19) (x1 + (2 : Int32)) (q_X12_readDocketLine__9 s11)
def q_X12_readDocketLine__7 (x1 : Int32) (v9 : Int32) (s10 : wg_M) : Option (Int32 × wg_M) := wg_sa 96 s10 19 (x1 + (2 : Int32)) v9 (q_X12_readDocketLine__8 x1)
def q_X12_readDocketLine__6 (x1 : Int32) (s7 : wg_M) (v8 : Int32) : Option (Int32 × wg_M) := if v8 = (-1 : Int32) then (some ((-1 : Int32), s7)) else (wg_bd (f_X12_readTold 0 (19 : Int32) (0 : Int32) ((s7 0 7) - (1 : Int32)) s7) (q_X12_readDocketLine__7 x1))
def q_X12_readDocketLine__5 (x1 : Int32) (s7 : wg_M) : Option (Int32 × wg_M) := wg_ga 96 (s7 19) (x1 + (1 : Int32)) (q_X12_readDocketLine__6 x1 s7)
def q_X12_readDocketLine__4 (x1 : Int32) (v5 : Int32) (s6 : wg_M) : Option (Int32 × wg_M) := wg_sa 96 s6 19 (x1 + (1 : Int32)) v5 (q_X12_readDocketLine__5 x1)
def q_X12_readDocketLine__3 (x1 : Int32) (s3 : wg_M) (v4 : Int32) : Option (Int32 × wg_M) := if v4 = (-1 : Int32) then (some ((-1 : Int32), s3)) else (wg_bd (f_X12_readTold 0 (18 : Int32) (0 : Int32) ((s3 0 8) - (1 : Int32)) s3) (q_X12_readDocketLine__4 x1))
def q_X12_readDocketLine__2 (x1 : Int32) (s3 : wg_M) : Option (Int32 × wg_M) := wg_ga 96 (s3 19) x1 (q_X12_readDocketLine__3 x1 s3)
def q_X12_readDocketLine__1 (x1 : Int32) (v1 : Int32) (s2 : wg_M) : Option (Int32 × wg_M) := wg_sa 96 s2 19 x1 v1 (q_X12_readDocketLine__2 x1)
theorem e_X12_readDocketLine__1 (x1 : Int32) (v1 : Int32) (s2 : wg_M) : q_X12_readDocketLine__1 x1 v1 s2 = wg_sa 96 s2 19 x1 v1 (q_X12_readDocketLine__2 x1) := rfl
theorem e_X12_readDocketLine__2 (x1 : Int32) (s3 : wg_M) : q_X12_readDocketLine__2 x1 s3 = wg_ga 96 (s3 19) x1 (q_X12_readDocketLine__3 x1 s3) := rfl
theorem e_X12_readDocketLine__3 (x1 : Int32) (s3 : wg_M) (v4 : Int32) : q_X12_readDocketLine__3 x1 s3 v4 = if v4 = (-1 : Int32) then (some ((-1 : Int32), s3)) else (wg_bd (f_X12_readTold 0 (18 : Int32) (0 : Int32) ((s3 0 8) - (1 : Int32)) s3) (q_X12_readDocketLine__4 x1)) := rfl
theorem e_X12_readDocketLine__4 (x1 : Int32) (v5 : Int32) (s6 : wg_M) : q_X12_readDocketLine__4 x1 v5 s6 = wg_sa 96 s6 19 (x1 + (1 : Int32)) v5 (q_X12_readDocketLine__5 x1) := rfl
theorem e_X12_readDocketLine__5 (x1 : Int32) (s7 : wg_M) : q_X12_readDocketLine__5 x1 s7 = wg_ga 96 (s7 19) (x1 + (1 : Int32)) (q_X12_readDocketLine__6 x1 s7) := rfl
theorem e_X12_readDocketLine__6 (x1 : Int32) (s7 : wg_M) (v8 : Int32) : q_X12_readDocketLine__6 x1 s7 v8 = if v8 = (-1 : Int32) then (some ((-1 : Int32), s7)) else (wg_bd (f_X12_readTold 0 (19 : Int32) (0 : Int32) ((s7 0 7) - (1 : Int32)) s7) (q_X12_readDocketLine__7 x1)) := rfl
theorem e_X12_readDocketLine__7 (x1 : Int32) (v9 : Int32) (s10 : wg_M) : q_X12_readDocketLine__7 x1 v9 s10 = wg_sa 96 s10 19 (x1 + (2 : Int32)) v9 (q_X12_readDocketLine__8 x1) := rfl
theorem e_X12_readDocketLine__8 (x1 : Int32) (s11 : wg_M) : q_X12_readDocketLine__8 x1 s11 = wg_ga 96 (s11 19) (x1 + (2 : Int32)) (q_X12_readDocketLine__9 s11) := rfl
theorem e_X12_readDocketLine__9 (s11 : wg_M) (v12 : Int32) : q_X12_readDocketLine__9 s11 v12 = if v12 = (-1 : Int32) then (some ((-1 : Int32), s11)) else (wg_bd (f_X12_readMark 0 (59 : Int32) s11) q_X12_readDocketLine__10) := rfl
theorem e_X12_readDocketLine__10 (v13 : Int32) (s14 : wg_M) : q_X12_readDocketLine__10 v13 s14 = some (v13, s14) := rfl
theorem e_X12_readDocketLine (x1 : Int32) (σ : wg_M) : f_X12_readDocketLine 0 x1 σ = wg_bd (f_X12_readTold 0 (17 : Int32) (0 : Int32) (999 : Int32) σ) (q_X12_readDocketLine__1 x1) := by
  unfold f_X12_readDocketLine
  simp only [sm_n19, sm_r0_38]
  rfl
def q_X12_readDocket_2__5 (n : Nat) (s6 : wg_M) (v7 : Int32) : Option (Int32 × wg_M) := f_X12_readDocket_2  n 0 v7 s6
def q_X12_readDocket_2__4 (n : Nat) (x1 : Int32) (v5 : Int32) (s6 : wg_M) : Option (Int32 × wg_M) := if v5 = (-1 : Int32) then (some ((-1 : Int32), s6)) else (wg_let (x1 + (1 : Int32)) (q_X12_readDocket_2__5 n s6))
def q_X12_readDocket_2__3 (v8 : Int32) (s9 : wg_M) : Option (Int32 × wg_M) := some (v8, s9)
def q_X12_readDocket_2__2 (v3 : Int32) (s4 : wg_M) : Option (Int32 × wg_M) := some (v3, s4)
def q_X12_readDocket_2__1 (n : Nat) (x1 : Int32) (v1 : Int32) (s2 : wg_M) : Option (Int32 × wg_M) := if v1 = 0 then (if (s2 0 18) = 0 then (some (x1, s2)) else (wg_bd (f_X12_errs 0 (1 : Int32) s2) q_X12_readDocket_2__2)) else (if x1 = (16 : Int32) then (wg_bd (f_X12_errs 0 (3 : Int32) s2) q_X12_readDocket_2__3) else (wg_bd (f_X12_readDocketLine 0 ((48 : Int32) + ((3 : Int32) * x1)) s2) (q_X12_readDocket_2__4 n x1)))
theorem e_X12_readDocket_2__1 (n : Nat) (x1 : Int32) (v1 : Int32) (s2 : wg_M) : q_X12_readDocket_2__1 n x1 v1 s2 = if v1 = 0 then (if (s2 0 18) = 0 then (some (x1, s2)) else (wg_bd (f_X12_errs 0 (1 : Int32) s2) q_X12_readDocket_2__2)) else (if x1 = (16 : Int32) then (wg_bd (f_X12_errs 0 (3 : Int32) s2) q_X12_readDocket_2__3) else (wg_bd (f_X12_readDocketLine 0 ((48 : Int32) + ((3 : Int32) * x1)) s2) (q_X12_readDocket_2__4 n x1))) := rfl
theorem e_X12_readDocket_2__2 (v3 : Int32) (s4 : wg_M) : q_X12_readDocket_2__2 v3 s4 = some (v3, s4) := rfl
theorem e_X12_readDocket_2__3 (v8 : Int32) (s9 : wg_M) : q_X12_readDocket_2__3 v8 s9 = some (v8, s9) := rfl
theorem e_X12_readDocket_2__4 (n : Nat) (x1 : Int32) (v5 : Int32) (s6 : wg_M) : q_X12_readDocket_2__4 n x1 v5 s6 = if v5 = (-1 : Int32) then (some ((-1 : Int32), s6)) else (wg_let (x1 + (1 : Int32)) (q_X12_readDocket_2__5 n s6)) := rfl
theorem e_X12_readDocket_2__5 (n : Nat) (s6 : wg_M) (v7 : Int32) : q_X12_readDocket_2__5 n s6 v7 = f_X12_readDocket_2  n 0 v7 s6 := rfl
theorem e_X12_readDocket_2 (n : Nat) (x1 : Int32) (σ : wg_M) : f_X12_readDocket_2 (n + 1) 0 x1 σ = wg_bd (f_X12_isWord 0 (17 : Int32) σ) (q_X12_readDocket_2__1 n x1) := by
  rw [f_X12_readDocket_2]
  rfl
theorem e_X12_readDocket (σ : wg_M) : f_X12_readDocket 0 σ = f_X12_readDocket_2  wg_N 0 (0 : Int32) σ := rfl
def q_X12_kindOfLoan__2 (v3 : Int32) (s4 : wg_M) : Option (Int32 × wg_M) := if v3 = 0 then (some ((-1 : Int32), s4)) else (some (((1 : Int32) + (s4 0 19)) - (22 : Int32), s4))
def q_X12_kindOfLoan__1 (v1 : Int32) (s2 : wg_M) : Option (Int32 × wg_M) := if v1 = 0 then (if (s2 0 18) = (2 : Int32) then (wg_bd (f_X12_isIn 0 (s2 0 19) (22 : Int32) (24 : Int32) s2) q_X12_kindOfLoan__2) else (some ((-1 : Int32), s2))) else (some ((0 : Int32), s2))
theorem e_X12_kindOfLoan__1 (v1 : Int32) (s2 : wg_M) : q_X12_kindOfLoan__1 v1 s2 = if v1 = 0 then (if (s2 0 18) = (2 : Int32) then (wg_bd (f_X12_isIn 0 (s2 0 19) (22 : Int32) (24 : Int32) s2) q_X12_kindOfLoan__2) else (some ((-1 : Int32), s2))) else (some ((0 : Int32), s2)) := rfl
theorem e_X12_kindOfLoan__2 (v3 : Int32) (s4 : wg_M) : q_X12_kindOfLoan__2 v3 s4 = if v3 = 0 then (some ((-1 : Int32), s4)) else (some (((1 : Int32) + (s4 0 19)) - (22 : Int32), s4)) := rfl
theorem e_X12_kindOfLoan (σ : wg_M) : f_X12_kindOfLoan 0 σ = wg_bd (f_X12_isWord 0 (20 : Int32) σ) q_X12_kindOfLoan__1 := rfl
def q_X12_readLoanMore__3 (v1 : Int32) (s2 : wg_M) : Option (Int32 × wg_M) := some (v1, s2)
def q_X12_readLoanMore__2 (v3 : Int32) (s4 : wg_M) : Option (Int32 × wg_M) := some (v3, s4)
def q_X12_readLoanMore__1 (v5 : Int32) (s6 : wg_M) : Option (Int32 × wg_M) := some (v5, s6)
theorem e_X12_readLoanMore__1 (v5 : Int32) (s6 : wg_M) : q_X12_readLoanMore__1 v5 s6 = some (v5, s6) := rfl
theorem e_X12_readLoanMore__2 (v3 : Int32) (s4 : wg_M) : q_X12_readLoanMore__2 v3 s4 = some (v3, s4) := rfl
theorem e_X12_readLoanMore__3 (v1 : Int32) (s2 : wg_M) : q_X12_readLoanMore__3 v1 s2 = some (v1, s2) := rfl
theorem e_X12_readLoanMore (x1 : Int32) (σ : wg_M) : f_X12_readLoanMore 0 x1 σ = if x1 = 0 then (wg_bd (f_X12_readTold 0 (21 : Int32) (0 : Int32) ((σ 0 7) - (1 : Int32)) σ) q_X12_readLoanMore__1) else (if x1 = (2 : Int32) then (wg_bd (f_X12_readNumber 0 (0 : Int32) (7 : Int32) σ) q_X12_readLoanMore__2) else (if x1 = (3 : Int32) then (wg_bd (f_X12_readNumber 0 (1 : Int32) (99 : Int32) σ) q_X12_readLoanMore__3) else (some ((0 : Int32), σ)))) := rfl
def q_X12_readLoan__14 (v17 : Int32) (s18 : wg_M) : Option (Int32 × wg_M) := some (v17, s18)
def q_X12_readLoan__13 (s15 : wg_M) (v16 : Int32) : Option (Int32 × wg_M) := if v16 = (-1 : Int32) then (some ((-1 : Int32), s15)) else (wg_bd (f_X12_readMark 0 (59 : Int32) s15) q_X12_readLoan__14)
def q_X12_readLoan__12 (x1 : Int32) (s15 : wg_M) : Option (Int32 × wg_M) := wg_ga 128 (s15 20) (x1 + (3 : Int32)) (q_X12_readLoan__13 s15)
def q_X12_readLoan__11 (x1 : Int32) (v13 : Int32) (s14 : wg_M) : Option (Int32 × wg_M) := wg_sa 128 s14 20 (x1 + (3 : Int32)) v13 (q_X12_readLoan__12 x1)
def q_X12_readLoan__10 (x1 : Int32) (v5 : Int32) (s11 : wg_M) (v12 : Int32) : Option (Int32 × wg_M) := if v12 = (-1 : Int32) then (some ((-1 : Int32), s11)) else (wg_bd (f_X12_readLoanMore 0 v5 s11) (q_X12_readLoan__11 x1))
def q_X12_readLoan__9 (x1 : Int32) (v5 : Int32) (s11 : wg_M) : Option (Int32 × wg_M) := wg_ga 128 (s11 20) (x1 + (2 : Int32)) (q_X12_readLoan__10 x1 v5 s11)
def q_X12_readLoan__8 (x1 : Int32) (v5 : Int32) (v9 : Int32) (s10 : wg_M) : Option (Int32 × wg_M) := wg_sa 128 s10 20 (x1 + (2 : Int32)) v9 (q_X12_readLoan__9 x1 v5)
def q_X12_readLoan__7 (x1 : Int32) (v5 : Int32) (s8 : wg_M) : Option (Int32 × wg_M) := wg_bd (f_X12_readNumber 0 (0 : Int32) ((s8 0 6) - (1 : Int32)) s8) (q_X12_readLoan__8 x1 v5)
def q_X12_readLoan__6 (x1 : Int32) (v5 : Int32) (_u6 : Int32) (s7 : wg_M) : Option (Int32 × wg_M) := wg_sa 128 s7 20 (x1 + (1 : Int32)) v5 (q_X12_readLoan__7 x1 v5)
def q_X12_readLoan__5 (v19 : Int32) (s20 : wg_M) : Option (Int32 × wg_M) := some (v19, s20)
def q_X12_readLoan__4 (x1 : Int32) (v5 : Int32) (s6 : wg_M) : Option (Int32 × wg_M) := if v5 = (-1 : Int32) then (wg_bd (f_X12_errs 0 (1 : Int32) s6) q_X12_readLoan__5) else (wg_bd (f_X12_reads 0 s6) (q_X12_readLoan__6 x1 v5))
def q_X12_readLoan__3 (x1 : Int32) (s3 : wg_M) (v4 : Int32) : Option (Int32 × wg_M) := if v4 = (-1 : Int32) then (some ((-1 : Int32), s3)) else (wg_bd (f_X12_kindOfLoan 0 s3) (q_X12_readLoan__4 x1))
def q_X12_readLoan__2 (x1 : Int32) (s3 : wg_M) : Option (Int32 × wg_M) := wg_ga 128 (s3 20) x1 (q_X12_readLoan__3 x1 s3)
def q_X12_readLoan__1 (x1 : Int32) (v1 : Int32) (s2 : wg_M) : Option (Int32 × wg_M) := wg_sa 128 s2 20 x1 v1 (q_X12_readLoan__2 x1)
theorem e_X12_readLoan__1 (x1 : Int32) (v1 : Int32) (s2 : wg_M) : q_X12_readLoan__1 x1 v1 s2 = wg_sa 128 s2 20 x1 v1 (q_X12_readLoan__2 x1) := rfl
theorem e_X12_readLoan__2 (x1 : Int32) (s3 : wg_M) : q_X12_readLoan__2 x1 s3 = wg_ga 128 (s3 20) x1 (q_X12_readLoan__3 x1 s3) := rfl
theorem e_X12_readLoan__3 (x1 : Int32) (s3 : wg_M) (v4 : Int32) : q_X12_readLoan__3 x1 s3 v4 = if v4 = (-1 : Int32) then (some ((-1 : Int32), s3)) else (wg_bd (f_X12_kindOfLoan 0 s3) (q_X12_readLoan__4 x1)) := rfl
theorem e_X12_readLoan__4 (x1 : Int32) (v5 : Int32) (s6 : wg_M) : q_X12_readLoan__4 x1 v5 s6 = if v5 = (-1 : Int32) then (wg_bd (f_X12_errs 0 (1 : Int32) s6) q_X12_readLoan__5) else (wg_bd (f_X12_reads 0 s6) (q_X12_readLoan__6 x1 v5)) := rfl
theorem e_X12_readLoan__5 (v19 : Int32) (s20 : wg_M) : q_X12_readLoan__5 v19 s20 = some (v19, s20) := rfl
theorem e_X12_readLoan__6 (x1 : Int32) (v5 : Int32) (_u6 : Int32) (s7 : wg_M) : q_X12_readLoan__6 x1 v5 _u6 s7 = wg_sa 128 s7 20 (x1 + (1 : Int32)) v5 (q_X12_readLoan__7 x1 v5) := rfl
theorem e_X12_readLoan__7 (x1 : Int32) (v5 : Int32) (s8 : wg_M) : q_X12_readLoan__7 x1 v5 s8 = wg_bd (f_X12_readNumber 0 (0 : Int32) ((s8 0 6) - (1 : Int32)) s8) (q_X12_readLoan__8 x1 v5) := rfl
theorem e_X12_readLoan__8 (x1 : Int32) (v5 : Int32) (v9 : Int32) (s10 : wg_M) : q_X12_readLoan__8 x1 v5 v9 s10 = wg_sa 128 s10 20 (x1 + (2 : Int32)) v9 (q_X12_readLoan__9 x1 v5) := rfl
theorem e_X12_readLoan__9 (x1 : Int32) (v5 : Int32) (s11 : wg_M) : q_X12_readLoan__9 x1 v5 s11 = wg_ga 128 (s11 20) (x1 + (2 : Int32)) (q_X12_readLoan__10 x1 v5 s11) := rfl
theorem e_X12_readLoan__10 (x1 : Int32) (v5 : Int32) (s11 : wg_M) (v12 : Int32) : q_X12_readLoan__10 x1 v5 s11 v12 = if v12 = (-1 : Int32) then (some ((-1 : Int32), s11)) else (wg_bd (f_X12_readLoanMore 0 v5 s11) (q_X12_readLoan__11 x1)) := rfl
theorem e_X12_readLoan__11 (x1 : Int32) (v13 : Int32) (s14 : wg_M) : q_X12_readLoan__11 x1 v13 s14 = wg_sa 128 s14 20 (x1 + (3 : Int32)) v13 (q_X12_readLoan__12 x1) := rfl
theorem e_X12_readLoan__12 (x1 : Int32) (s15 : wg_M) : q_X12_readLoan__12 x1 s15 = wg_ga 128 (s15 20) (x1 + (3 : Int32)) (q_X12_readLoan__13 s15) := rfl
theorem e_X12_readLoan__13 (s15 : wg_M) (v16 : Int32) : q_X12_readLoan__13 s15 v16 = if v16 = (-1 : Int32) then (some ((-1 : Int32), s15)) else (wg_bd (f_X12_readMark 0 (59 : Int32) s15) q_X12_readLoan__14) := rfl
theorem e_X12_readLoan__14 (v17 : Int32) (s18 : wg_M) : q_X12_readLoan__14 v17 s18 = some (v17, s18) := rfl
theorem e_X12_readLoan (x1 : Int32) (σ : wg_M) : f_X12_readLoan 0 x1 σ = wg_bd (f_X12_readTold 0 (17 : Int32) (0 : Int32) (999 : Int32) σ) (q_X12_readLoan__1 x1) := by
  unfold f_X12_readLoan
  simp only [sm_n20, sm_r0_40]
  rfl
def q_X12_readLoans_2__5 (n : Nat) (s6 : wg_M) (v7 : Int32) : Option (Int32 × wg_M) := f_X12_readLoans_2  n 0 v7 s6
def q_X12_readLoans_2__4 (n : Nat) (x1 : Int32) (v5 : Int32) (s6 : wg_M) : Option (Int32 × wg_M) := if v5 = (-1 : Int32) then (some ((-1 : Int32), s6)) else (wg_let (x1 + (1 : Int32)) (q_X12_readLoans_2__5 n s6))
def q_X12_readLoans_2__3 (v8 : Int32) (s9 : wg_M) : Option (Int32 × wg_M) := some (v8, s9)
def q_X12_readLoans_2__2 (v3 : Int32) (s4 : wg_M) : Option (Int32 × wg_M) := some (v3, s4)
def q_X12_readLoans_2__1 (n : Nat) (x1 : Int32) (v1 : Int32) (s2 : wg_M) : Option (Int32 × wg_M) := if v1 = 0 then (if (s2 0 18) = 0 then (some (x1, s2)) else (wg_bd (f_X12_errs 0 (1 : Int32) s2) q_X12_readLoans_2__2)) else (if x1 = (16 : Int32) then (wg_bd (f_X12_errs 0 (3 : Int32) s2) q_X12_readLoans_2__3) else (wg_bd (f_X12_readLoan 0 ((64 : Int32) + ((4 : Int32) * x1)) s2) (q_X12_readLoans_2__4 n x1)))
theorem e_X12_readLoans_2__1 (n : Nat) (x1 : Int32) (v1 : Int32) (s2 : wg_M) : q_X12_readLoans_2__1 n x1 v1 s2 = if v1 = 0 then (if (s2 0 18) = 0 then (some (x1, s2)) else (wg_bd (f_X12_errs 0 (1 : Int32) s2) q_X12_readLoans_2__2)) else (if x1 = (16 : Int32) then (wg_bd (f_X12_errs 0 (3 : Int32) s2) q_X12_readLoans_2__3) else (wg_bd (f_X12_readLoan 0 ((64 : Int32) + ((4 : Int32) * x1)) s2) (q_X12_readLoans_2__4 n x1))) := rfl
theorem e_X12_readLoans_2__2 (v3 : Int32) (s4 : wg_M) : q_X12_readLoans_2__2 v3 s4 = some (v3, s4) := rfl
theorem e_X12_readLoans_2__3 (v8 : Int32) (s9 : wg_M) : q_X12_readLoans_2__3 v8 s9 = some (v8, s9) := rfl
theorem e_X12_readLoans_2__4 (n : Nat) (x1 : Int32) (v5 : Int32) (s6 : wg_M) : q_X12_readLoans_2__4 n x1 v5 s6 = if v5 = (-1 : Int32) then (some ((-1 : Int32), s6)) else (wg_let (x1 + (1 : Int32)) (q_X12_readLoans_2__5 n s6)) := rfl
theorem e_X12_readLoans_2__5 (n : Nat) (s6 : wg_M) (v7 : Int32) : q_X12_readLoans_2__5 n s6 v7 = f_X12_readLoans_2  n 0 v7 s6 := rfl
theorem e_X12_readLoans_2 (n : Nat) (x1 : Int32) (σ : wg_M) : f_X12_readLoans_2 (n + 1) 0 x1 σ = wg_bd (f_X12_isWord 0 (17 : Int32) σ) (q_X12_readLoans_2__1 n x1) := by
  rw [f_X12_readLoans_2]
  rfl
theorem e_X12_readLoans (σ : wg_M) : f_X12_readLoans 0 σ = f_X12_readLoans_2  wg_N 0 (0 : Int32) σ := rfl
def q_X12_readKinLine_105__1 (v1 : Int32) (s2 : wg_M) : Option (Int32 × wg_M) := some (v1, s2)
theorem e_X12_readKinLine_105__1 (v1 : Int32) (s2 : wg_M) : q_X12_readKinLine_105__1 v1 s2 = some (v1, s2) := rfl
theorem e_X12_readKinLine_105 (σ : wg_M) : f_X12_readKinLine_105 0 σ = wg_bd (f_X12_readMark 0 (59 : Int32) σ) q_X12_readKinLine_105__1 := rfl
def q_X12_readKinLine_62__3 (s4 : wg_M) : Option (Int32 × wg_M) := f_X12_readKinLine_105  0 s4
def q_X12_readKinLine_62__2 (x1 : Int32) (v1 : Int32) (s2 : wg_M) (v3 : Int32) : Option (Int32 × wg_M) := if v3 = 0 then (wg_sa 16 s2 21 ((8 : Int32) + x1) (v1 + (1 : Int32)) q_X12_readKinLine_62__3) else (f_X12_readKinLine_105  0 s2)
def q_X12_readKinLine_62__1 (x1 : Int32) (v1 : Int32) (s2 : wg_M) : Option (Int32 × wg_M) := if v1 = (-1 : Int32) then (some ((-1 : Int32), s2)) else (wg_ga 16 (s2 21) ((8 : Int32) + x1) (q_X12_readKinLine_62__2 x1 v1 s2))
theorem e_X12_readKinLine_62__1 (x1 : Int32) (v1 : Int32) (s2 : wg_M) : q_X12_readKinLine_62__1 x1 v1 s2 = if v1 = (-1 : Int32) then (some ((-1 : Int32), s2)) else (wg_ga 16 (s2 21) ((8 : Int32) + x1) (q_X12_readKinLine_62__2 x1 v1 s2)) := rfl
theorem e_X12_readKinLine_62__2 (x1 : Int32) (v1 : Int32) (s2 : wg_M) (v3 : Int32) : q_X12_readKinLine_62__2 x1 v1 s2 v3 = if v3 = 0 then (wg_sa 16 s2 21 ((8 : Int32) + x1) (v1 + (1 : Int32)) q_X12_readKinLine_62__3) else (f_X12_readKinLine_105  0 s2) := rfl
theorem e_X12_readKinLine_62__3 (s4 : wg_M) : q_X12_readKinLine_62__3 s4 = f_X12_readKinLine_105  0 s4 := rfl
theorem e_X12_readKinLine_62 (x1 : Int32) (σ : wg_M) : f_X12_readKinLine_62 0 x1 σ = wg_bd (f_X12_readNumber 0 (0 : Int32) ((σ 0 6) - (1 : Int32)) σ) (q_X12_readKinLine_62__1 x1) := by
  unfold f_X12_readKinLine_62
  simp only [sm_n21, sm_r0_42]
  rfl
def q_X12_readKinLine__5 (v6 : Int32) (s7 : wg_M) : Option (Int32 × wg_M) := some (v6, s7)
def q_X12_readKinLine__4 (v1 : Int32) (_u4 : Int32) (s5 : wg_M) : Option (Int32 × wg_M) := if (s5 0 18) = (3 : Int32) then (if (s5 0 19) = v1 then (wg_bd (f_X12_errs 0 (2 : Int32) s5) q_X12_readKinLine__5) else (f_X12_readKinLine_62  0 v1 s5)) else (f_X12_readKinLine_62  0 v1 s5)
def q_X12_readKinLine__3 (v8 : Int32) (s9 : wg_M) : Option (Int32 × wg_M) := some (v8, s9)
def q_X12_readKinLine__2 (v1 : Int32) (v3 : Int32) (s4 : wg_M) : Option (Int32 × wg_M) := if v3 = 0 then (wg_bd (f_X12_errs 0 (1 : Int32) s4) q_X12_readKinLine__3) else (wg_bd (f_X12_reads 0 s4) (q_X12_readKinLine__4 v1))
def q_X12_readKinLine__1 (v1 : Int32) (s2 : wg_M) : Option (Int32 × wg_M) := if v1 = (-1 : Int32) then (some ((-1 : Int32), s2)) else (wg_bd (f_X12_isWord 0 (25 : Int32) s2) (q_X12_readKinLine__2 v1))
theorem e_X12_readKinLine__1 (v1 : Int32) (s2 : wg_M) : q_X12_readKinLine__1 v1 s2 = if v1 = (-1 : Int32) then (some ((-1 : Int32), s2)) else (wg_bd (f_X12_isWord 0 (25 : Int32) s2) (q_X12_readKinLine__2 v1)) := rfl
theorem e_X12_readKinLine__2 (v1 : Int32) (v3 : Int32) (s4 : wg_M) : q_X12_readKinLine__2 v1 v3 s4 = if v3 = 0 then (wg_bd (f_X12_errs 0 (1 : Int32) s4) q_X12_readKinLine__3) else (wg_bd (f_X12_reads 0 s4) (q_X12_readKinLine__4 v1)) := rfl
theorem e_X12_readKinLine__3 (v8 : Int32) (s9 : wg_M) : q_X12_readKinLine__3 v8 s9 = some (v8, s9) := rfl
theorem e_X12_readKinLine__4 (v1 : Int32) (_u4 : Int32) (s5 : wg_M) : q_X12_readKinLine__4 v1 _u4 s5 = if (s5 0 18) = (3 : Int32) then (if (s5 0 19) = v1 then (wg_bd (f_X12_errs 0 (2 : Int32) s5) q_X12_readKinLine__5) else (f_X12_readKinLine_62  0 v1 s5)) else (f_X12_readKinLine_62  0 v1 s5) := rfl
theorem e_X12_readKinLine__5 (v6 : Int32) (s7 : wg_M) : q_X12_readKinLine__5 v6 s7 = some (v6, s7) := rfl
theorem e_X12_readKinLine (σ : wg_M) : f_X12_readKinLine 0 σ = wg_bd (f_X12_readTold 0 (20 : Int32) (0 : Int32) ((σ 0 6) - (1 : Int32)) σ) q_X12_readKinLine__1 := rfl
def q_X12_readKin_26__5 (n : Nat) (s6 : wg_M) (v7 : Int32) : Option (Int32 × wg_M) := f_X12_readKin_26  n 0 v7 s6
def q_X12_readKin_26__4 (n : Nat) (x1 : Int32) (v5 : Int32) (s6 : wg_M) : Option (Int32 × wg_M) := if v5 = (-1 : Int32) then (some ((-1 : Int32), s6)) else (wg_let (x1 + (1 : Int32)) (q_X12_readKin_26__5 n s6))
def q_X12_readKin_26__3 (v8 : Int32) (s9 : wg_M) : Option (Int32 × wg_M) := some (v8, s9)
def q_X12_readKin_26__2 (v3 : Int32) (s4 : wg_M) : Option (Int32 × wg_M) := some (v3, s4)
def q_X12_readKin_26__1 (n : Nat) (x1 : Int32) (v1 : Int32) (s2 : wg_M) : Option (Int32 × wg_M) := if v1 = 0 then (if (s2 0 18) = 0 then (some (x1, s2)) else (wg_bd (f_X12_errs 0 (1 : Int32) s2) q_X12_readKin_26__2)) else (if x1 = (16 : Int32) then (wg_bd (f_X12_errs 0 (3 : Int32) s2) q_X12_readKin_26__3) else (wg_bd (f_X12_readKinLine 0 s2) (q_X12_readKin_26__4 n x1)))
theorem e_X12_readKin_26__1 (n : Nat) (x1 : Int32) (v1 : Int32) (s2 : wg_M) : q_X12_readKin_26__1 n x1 v1 s2 = if v1 = 0 then (if (s2 0 18) = 0 then (some (x1, s2)) else (wg_bd (f_X12_errs 0 (1 : Int32) s2) q_X12_readKin_26__2)) else (if x1 = (16 : Int32) then (wg_bd (f_X12_errs 0 (3 : Int32) s2) q_X12_readKin_26__3) else (wg_bd (f_X12_readKinLine 0 s2) (q_X12_readKin_26__4 n x1))) := rfl
theorem e_X12_readKin_26__2 (v3 : Int32) (s4 : wg_M) : q_X12_readKin_26__2 v3 s4 = some (v3, s4) := rfl
theorem e_X12_readKin_26__3 (v8 : Int32) (s9 : wg_M) : q_X12_readKin_26__3 v8 s9 = some (v8, s9) := rfl
theorem e_X12_readKin_26__4 (n : Nat) (x1 : Int32) (v5 : Int32) (s6 : wg_M) : q_X12_readKin_26__4 n x1 v5 s6 = if v5 = (-1 : Int32) then (some ((-1 : Int32), s6)) else (wg_let (x1 + (1 : Int32)) (q_X12_readKin_26__5 n s6)) := rfl
theorem e_X12_readKin_26__5 (n : Nat) (s6 : wg_M) (v7 : Int32) : q_X12_readKin_26__5 n s6 v7 = f_X12_readKin_26  n 0 v7 s6 := rfl
theorem e_X12_readKin_26 (n : Nat) (x1 : Int32) (σ : wg_M) : f_X12_readKin_26 (n + 1) 0 x1 σ = wg_bd (f_X12_isWord 0 (20 : Int32) σ) (q_X12_readKin_26__1 n x1) := by
  rw [f_X12_readKin_26]
  rfl
def q_X12_readKin_2__2 (n : Nat) (s1 : wg_M) (v2 : Int32) : Option (Int32 × wg_M) := f_X12_readKin_2  n 0 v2 s1
def q_X12_readKin_2__1 (n : Nat) (x1 : Int32) (s1 : wg_M) : Option (Int32 × wg_M) := wg_let (x1 + (1 : Int32)) (q_X12_readKin_2__2 n s1)
theorem e_X12_readKin_2__1 (n : Nat) (x1 : Int32) (s1 : wg_M) : q_X12_readKin_2__1 n x1 s1 = wg_let (x1 + (1 : Int32)) (q_X12_readKin_2__2 n s1) := rfl
theorem e_X12_readKin_2__2 (n : Nat) (s1 : wg_M) (v2 : Int32) : q_X12_readKin_2__2 n s1 v2 = f_X12_readKin_2  n 0 v2 s1 := rfl
theorem e_X12_readKin_2 (n : Nat) (x1 : Int32) (σ : wg_M) : f_X12_readKin_2 (n + 1) 0 x1 σ = if (8 : Int32) ≤ x1 then (f_X12_readKin_26  wg_N 0 (0 : Int32) σ) else (wg_sa 16 σ 21 ((8 : Int32) + x1) (0 : Int32) (q_X12_readKin_2__1 n x1)) := by
  rw [f_X12_readKin_2]
  simp only [sm_n21, sm_r0_42]
  rfl
theorem e_X12_readKin (σ : wg_M) : f_X12_readKin 0 σ = f_X12_readKin_2  wg_N 0 (0 : Int32) σ := rfl
def q_X12_readsText__6 (v3 : Int32) (s4 : wg_M) : Option (Int32 × wg_M) := some (v3, s4)
def q_X12_readsText__5 (v5 : Int32) (s6 : wg_M) : Option (Int32 × wg_M) := some (v5, s6)
def q_X12_readsText__4 (v7 : Int32) (s8 : wg_M) : Option (Int32 × wg_M) := some (v7, s8)
def q_X12_readsText__3 (v9 : Int32) (s10 : wg_M) : Option (Int32 × wg_M) := some (v9, s10)
def q_X12_readsText__2 (x1 : Int32) (_u2 : Int32) (s2 : wg_M) : Option (Int32 × wg_M) := if x1 = (1 : Int32) then (wg_bd (f_X12_readDocket 0 s2) q_X12_readsText__3) else (if x1 = (2 : Int32) then (wg_bd (f_X12_readLoans 0 s2) q_X12_readsText__4) else (if x1 = (3 : Int32) then (wg_bd (f_X12_readKin 0 s2) q_X12_readsText__5) else (wg_bd (f_X12_readLaw 0 s2) q_X12_readsText__6)))
def q_X12_readsText__1 (x1 : Int32) (s1 : wg_M) : Option (Int32 × wg_M) := wg_bd (f_X12_reads 0 s1) (q_X12_readsText__2 x1)
theorem e_X12_readsText__1 (x1 : Int32) (s1 : wg_M) : q_X12_readsText__1 x1 s1 = wg_bd (f_X12_reads 0 s1) (q_X12_readsText__2 x1) := rfl
theorem e_X12_readsText__2 (x1 : Int32) (_u2 : Int32) (s2 : wg_M) : q_X12_readsText__2 x1 _u2 s2 = if x1 = (1 : Int32) then (wg_bd (f_X12_readDocket 0 s2) q_X12_readsText__3) else (if x1 = (2 : Int32) then (wg_bd (f_X12_readLoans 0 s2) q_X12_readsText__4) else (if x1 = (3 : Int32) then (wg_bd (f_X12_readKin 0 s2) q_X12_readsText__5) else (wg_bd (f_X12_readLaw 0 s2) q_X12_readsText__6))) := rfl
theorem e_X12_readsText__3 (v9 : Int32) (s10 : wg_M) : q_X12_readsText__3 v9 s10 = some (v9, s10) := rfl
theorem e_X12_readsText__4 (v7 : Int32) (s8 : wg_M) : q_X12_readsText__4 v7 s8 = some (v7, s8) := rfl
theorem e_X12_readsText__5 (v5 : Int32) (s6 : wg_M) : q_X12_readsText__5 v5 s6 = some (v5, s6) := rfl
theorem e_X12_readsText__6 (v3 : Int32) (s4 : wg_M) : q_X12_readsText__6 v3 s4 = some (v3, s4) := rfl
theorem e_X12_readsText (x1 : Int32) (σ : wg_M) : f_X12_readsText 0 x1 σ = wg_st σ 0 28 (0 : Int32) (q_X12_readsText__1 x1) := rfl
def q_X12_takesOther_118__1 (s1 : wg_M) : Option (Int32 × wg_M) := some (0, s1)
theorem e_X12_takesOther_118__1 (s1 : wg_M) : q_X12_takesOther_118__1 s1 = some (0, s1) := rfl
theorem e_X12_takesOther_118 (σ : wg_M) : f_X12_takesOther_118 0 σ = wg_st σ 0 3 (0 : Int32) q_X12_takesOther_118__1 := rfl
def q_X12_takesOther_85__4 (n : Nat) (x2 : Int32) (s3 : wg_M) (v4 : Int32) : Option (Int32 × wg_M) := f_X12_takesOther_85  n 0 x2 v4 s3
def q_X12_takesOther_85__3 (n : Nat) (x2 : Int32) (x3 : Int32) (s3 : wg_M) : Option (Int32 × wg_M) := wg_let (x3 + (1 : Int32)) (q_X12_takesOther_85__4 n x2 s3)
def q_X12_takesOther_85__2 (n : Nat) (x2 : Int32) (x3 : Int32) (σ : wg_M) (v2 : Int32) : Option (Int32 × wg_M) := wg_sa 128 σ 20 x3 v2 (q_X12_takesOther_85__3 n x2 x3)
def q_X12_takesOther_85__1 (s1 : wg_M) : Option (Int32 × wg_M) := f_X12_takesOther_118  0 s1
theorem e_X12_takesOther_85__1 (s1 : wg_M) : q_X12_takesOther_85__1 s1 = f_X12_takesOther_118  0 s1 := rfl
theorem e_X12_takesOther_85__2 (n : Nat) (x2 : Int32) (x3 : Int32) (σ : wg_M) (v2 : Int32) : q_X12_takesOther_85__2 n x2 x3 σ v2 = wg_sa 128 σ 20 x3 v2 (q_X12_takesOther_85__3 n x2 x3) := rfl
theorem e_X12_takesOther_85__3 (n : Nat) (x2 : Int32) (x3 : Int32) (s3 : wg_M) : q_X12_takesOther_85__3 n x2 x3 s3 = wg_let (x3 + (1 : Int32)) (q_X12_takesOther_85__4 n x2 s3) := rfl
theorem e_X12_takesOther_85__4 (n : Nat) (x2 : Int32) (s3 : wg_M) (v4 : Int32) : q_X12_takesOther_85__4 n x2 s3 v4 = f_X12_takesOther_85  n 0 x2 v4 s3 := rfl
theorem e_X12_takesOther_85 (n : Nat) (x2 : Int32) (x3 : Int32) (σ : wg_M) : f_X12_takesOther_85 (n + 1) 0 x2 x3 σ = if ((4 : Int32) * x2) ≤ x3 then (wg_st σ 0 39 x2 q_X12_takesOther_85__1) else (wg_ga 128 (σ 20) ((64 : Int32) + x3) (q_X12_takesOther_85__2 n x2 x3 σ)) := by
  rw [f_X12_takesOther_85]
  simp only [sm_n20, sm_r0_40]
  rfl
def q_X12_takesOther_47__4 (n : Nat) (x2 : Int32) (s3 : wg_M) (v4 : Int32) : Option (Int32 × wg_M) := f_X12_takesOther_47  n 0 x2 v4 s3
def q_X12_takesOther_47__3 (n : Nat) (x2 : Int32) (x3 : Int32) (s3 : wg_M) : Option (Int32 × wg_M) := wg_let (x3 + (1 : Int32)) (q_X12_takesOther_47__4 n x2 s3)
def q_X12_takesOther_47__2 (n : Nat) (x2 : Int32) (x3 : Int32) (σ : wg_M) (v2 : Int32) : Option (Int32 × wg_M) := wg_sa 96 σ 19 x3 v2 (q_X12_takesOther_47__3 n x2 x3)
def q_X12_takesOther_47__1 (s1 : wg_M) : Option (Int32 × wg_M) := f_X12_takesOther_118  0 s1
theorem e_X12_takesOther_47__1 (s1 : wg_M) : q_X12_takesOther_47__1 s1 = f_X12_takesOther_118  0 s1 := rfl
theorem e_X12_takesOther_47__2 (n : Nat) (x2 : Int32) (x3 : Int32) (σ : wg_M) (v2 : Int32) : q_X12_takesOther_47__2 n x2 x3 σ v2 = wg_sa 96 σ 19 x3 v2 (q_X12_takesOther_47__3 n x2 x3) := rfl
theorem e_X12_takesOther_47__3 (n : Nat) (x2 : Int32) (x3 : Int32) (s3 : wg_M) : q_X12_takesOther_47__3 n x2 x3 s3 = wg_let (x3 + (1 : Int32)) (q_X12_takesOther_47__4 n x2 s3) := rfl
theorem e_X12_takesOther_47__4 (n : Nat) (x2 : Int32) (s3 : wg_M) (v4 : Int32) : q_X12_takesOther_47__4 n x2 s3 v4 = f_X12_takesOther_47  n 0 x2 v4 s3 := rfl
theorem e_X12_takesOther_47 (n : Nat) (x2 : Int32) (x3 : Int32) (σ : wg_M) : f_X12_takesOther_47 (n + 1) 0 x2 x3 σ = if ((3 : Int32) * x2) ≤ x3 then (wg_st σ 0 37 x2 q_X12_takesOther_47__1) else (wg_ga 96 (σ 19) ((48 : Int32) + x3) (q_X12_takesOther_47__2 n x2 x3 σ)) := by
  rw [f_X12_takesOther_47]
  simp only [sm_n19, sm_r0_38]
  rfl
def q_X12_takesOther_7__4 (n : Nat) (x2 : Int32) (s3 : wg_M) (v4 : Int32) : Option (Int32 × wg_M) := f_X12_takesOther_7  n 0 x2 v4 s3
def q_X12_takesOther_7__3 (n : Nat) (x2 : Int32) (x3 : Int32) (s3 : wg_M) : Option (Int32 × wg_M) := wg_let (x3 + (1 : Int32)) (q_X12_takesOther_7__4 n x2 s3)
def q_X12_takesOther_7__2 (n : Nat) (x2 : Int32) (x3 : Int32) (σ : wg_M) (v2 : Int32) : Option (Int32 × wg_M) := wg_sa 16 σ 21 x3 v2 (q_X12_takesOther_7__3 n x2 x3)
def q_X12_takesOther_7__1 (s1 : wg_M) : Option (Int32 × wg_M) := some (0, s1)
theorem e_X12_takesOther_7__1 (s1 : wg_M) : q_X12_takesOther_7__1 s1 = some (0, s1) := rfl
theorem e_X12_takesOther_7__2 (n : Nat) (x2 : Int32) (x3 : Int32) (σ : wg_M) (v2 : Int32) : q_X12_takesOther_7__2 n x2 x3 σ v2 = wg_sa 16 σ 21 x3 v2 (q_X12_takesOther_7__3 n x2 x3) := rfl
theorem e_X12_takesOther_7__3 (n : Nat) (x2 : Int32) (x3 : Int32) (s3 : wg_M) : q_X12_takesOther_7__3 n x2 x3 s3 = wg_let (x3 + (1 : Int32)) (q_X12_takesOther_7__4 n x2 s3) := rfl
theorem e_X12_takesOther_7__4 (n : Nat) (x2 : Int32) (s3 : wg_M) (v4 : Int32) : q_X12_takesOther_7__4 n x2 s3 v4 = f_X12_takesOther_7  n 0 x2 v4 s3 := rfl
theorem e_X12_takesOther_7 (n : Nat) (x2 : Int32) (x3 : Int32) (σ : wg_M) : f_X12_takesOther_7 (n + 1) 0 x2 x3 σ = if (8 : Int32) ≤ x3 then (wg_st σ 0 41 x2 q_X12_takesOther_7__1) else (wg_ga 16 (σ 21) ((8 : Int32) + x3) (q_X12_takesOther_7__2 n x2 x3 σ)) := by
  rw [f_X12_takesOther_7]
  simp only [sm_n21, sm_r0_42]
  rfl
theorem e_X12_takesOther (x1 : Int32) (x2 : Int32) (σ : wg_M) : f_X12_takesOther 0 x1 x2 σ = if x1 = (3 : Int32) then (f_X12_takesOther_7  wg_N 0 x2 (0 : Int32) σ) else (if x1 = (1 : Int32) then (f_X12_takesOther_47  wg_N 0 x2 (0 : Int32) σ) else (f_X12_takesOther_85  wg_N 0 x2 (0 : Int32) σ)) := rfl
def q_X12_text_69__3 (x2 : Int32) (_u3 : Int32) (s2 : wg_M) : Option (Int32 × wg_M) := some (x2, s2)
def q_X12_text_69__2 (x2 : Int32) (_u2 : Int32) (s3 : wg_M) : Option (Int32 × wg_M) := some (x2, s3)
def q_X12_text_69__1 (x1 : Int32) (x2 : Int32) (s1 : wg_M) : Option (Int32 × wg_M) := if x2 = (-1 : Int32) then (some ((-1 : Int32), s1)) else (if x1 = 0 then (wg_bd (f_X12_takesLaw 0 x2 s1) (q_X12_text_69__2 x2)) else (wg_bd (f_X12_takesOther 0 x1 x2 s1) (q_X12_text_69__3 x2)))
theorem e_X12_text_69__1 (x1 : Int32) (x2 : Int32) (s1 : wg_M) : q_X12_text_69__1 x1 x2 s1 = if x2 = (-1 : Int32) then (some ((-1 : Int32), s1)) else (if x1 = 0 then (wg_bd (f_X12_takesLaw 0 x2 s1) (q_X12_text_69__2 x2)) else (wg_bd (f_X12_takesOther 0 x1 x2 s1) (q_X12_text_69__3 x2))) := rfl
theorem e_X12_text_69__2 (x2 : Int32) (_u2 : Int32) (s3 : wg_M) : q_X12_text_69__2 x2 _u2 s3 = some (x2, s3) := rfl
theorem e_X12_text_69__3 (x2 : Int32) (_u3 : Int32) (s2 : wg_M) : q_X12_text_69__3 x2 _u3 s2 = some (x2, s2) := rfl
theorem e_X12_text_69 (x1 : Int32) (x2 : Int32) (σ : wg_M) : f_X12_text_69 0 x1 x2 σ = wg_st σ 0 15 (0 : Int32) (q_X12_text_69__1 x1 x2) := rfl
def q_X12_text__10 (x1 : Int32) (v9 : Int32) (s12 : wg_M) : Option (Int32 × wg_M) := f_X12_text_69  0 x1 v9 s12
def q_X12_text__9 (x1 : Int32) (v9 : Int32) (s11 : wg_M) : Option (Int32 × wg_M) := wg_st s11 0 36 (s11 0 34) (q_X12_text__10 x1 v9)
def q_X12_text__8 (x1 : Int32) (v9 : Int32) (s10 : wg_M) : Option (Int32 × wg_M) := if v9 = (-1 : Int32) then (wg_st s10 0 35 (s10 0 33) (q_X12_text__9 x1 v9)) else (f_X12_text_69  0 x1 v9 s10)
def q_X12_text__7 (x1 : Int32) (v7 : Int32) (s8 : wg_M) : Option (Int32 × wg_M) := if v7 = 0 then (f_X12_text_69  0 x1 (-1 : Int32) s8) else (wg_bd (f_X12_readsText 0 x1 s8) (q_X12_text__8 x1))
def q_X12_text__6 (x1 : Int32) (s6 : wg_M) : Option (Int32 × wg_M) := wg_bd (f_X12_isIn 0 x1 (0 : Int32) (3 : Int32) s6) (q_X12_text__7 x1)
def q_X12_text__5 (x1 : Int32) (s5 : wg_M) : Option (Int32 × wg_M) := wg_st s5 0 30 (0 : Int32) (q_X12_text__6 x1)
def q_X12_text__4 (x1 : Int32) (s4 : wg_M) : Option (Int32 × wg_M) := wg_st s4 0 29 (0 : Int32) (q_X12_text__5 x1)
def q_X12_text__3 (x1 : Int32) (s3 : wg_M) : Option (Int32 × wg_M) := wg_st s3 0 16 (0 : Int32) (q_X12_text__4 x1)
def q_X12_text__2 (x1 : Int32) (s2 : wg_M) : Option (Int32 × wg_M) := wg_st s2 0 36 (-1 : Int32) (q_X12_text__3 x1)
def q_X12_text__1 (x1 : Int32) (s1 : wg_M) : Option (Int32 × wg_M) := wg_st s1 0 35 (0 : Int32) (q_X12_text__2 x1)
theorem e_X12_text__1 (x1 : Int32) (s1 : wg_M) : q_X12_text__1 x1 s1 = wg_st s1 0 35 (0 : Int32) (q_X12_text__2 x1) := rfl
theorem e_X12_text__2 (x1 : Int32) (s2 : wg_M) : q_X12_text__2 x1 s2 = wg_st s2 0 36 (-1 : Int32) (q_X12_text__3 x1) := rfl
theorem e_X12_text__3 (x1 : Int32) (s3 : wg_M) : q_X12_text__3 x1 s3 = wg_st s3 0 16 (0 : Int32) (q_X12_text__4 x1) := rfl
theorem e_X12_text__4 (x1 : Int32) (s4 : wg_M) : q_X12_text__4 x1 s4 = wg_st s4 0 29 (0 : Int32) (q_X12_text__5 x1) := rfl
theorem e_X12_text__5 (x1 : Int32) (s5 : wg_M) : q_X12_text__5 x1 s5 = wg_st s5 0 30 (0 : Int32) (q_X12_text__6 x1) := rfl
theorem e_X12_text__6 (x1 : Int32) (s6 : wg_M) : q_X12_text__6 x1 s6 = wg_bd (f_X12_isIn 0 x1 (0 : Int32) (3 : Int32) s6) (q_X12_text__7 x1) := rfl
theorem e_X12_text__7 (x1 : Int32) (v7 : Int32) (s8 : wg_M) : q_X12_text__7 x1 v7 s8 = if v7 = 0 then (f_X12_text_69  0 x1 (-1 : Int32) s8) else (wg_bd (f_X12_readsText 0 x1 s8) (q_X12_text__8 x1)) := rfl
theorem e_X12_text__8 (x1 : Int32) (v9 : Int32) (s10 : wg_M) : q_X12_text__8 x1 v9 s10 = if v9 = (-1 : Int32) then (wg_st s10 0 35 (s10 0 33) (q_X12_text__9 x1 v9)) else (f_X12_text_69  0 x1 v9 s10) := rfl
theorem e_X12_text__9 (x1 : Int32) (v9 : Int32) (s11 : wg_M) : q_X12_text__9 x1 v9 s11 = wg_st s11 0 36 (s11 0 34) (q_X12_text__10 x1 v9) := rfl
theorem e_X12_text__10 (x1 : Int32) (v9 : Int32) (s12 : wg_M) : q_X12_text__10 x1 v9 s12 = f_X12_text_69  0 x1 v9 s12 := rfl
theorem e_X12_text (x1 : Int32) (σ : wg_M) : f_X12_text 0 x1 σ = wg_st σ 0 0 (0 : Int32) (q_X12_text__1 x1) := rfl
def q_X12_fault__1 (x1 : Int32) (s1 : wg_M) : Option (Int32 × wg_M) := if x1 = 0 then (some (s1 0 35, s1)) else (if x1 = (1 : Int32) then (some (s1 0 36, s1)) else (some ((-1 : Int32), s1)))
theorem e_X12_fault__1 (x1 : Int32) (s1 : wg_M) : q_X12_fault__1 x1 s1 = if x1 = 0 then (some (s1 0 35, s1)) else (if x1 = (1 : Int32) then (some (s1 0 36, s1)) else (some ((-1 : Int32), s1))) := rfl
theorem e_X12_fault (x1 : Int32) (σ : wg_M) : f_X12_fault 0 x1 σ = wg_st σ 0 0 (0 : Int32) (q_X12_fault__1 x1) := rfl
def q_X12_twoOf__1 (σ : wg_M) (v1 : Int32) : Option (Int32 × wg_M) := some (v1, σ)
theorem e_X12_twoOf__1 (σ : wg_M) (v1 : Int32) : q_X12_twoOf__1 σ v1 = some (v1, σ) := rfl
theorem e_X12_twoOf (x1 : Int32) (x2 : Int32) (x3 : Int32) (σ : wg_M) : f_X12_twoOf 0 x1 x2 x3 σ = if x1 = (2 : Int32) then (some (x2 + x3, σ)) else (if x1 = (3 : Int32) then (some (x2 - x3, σ)) else (if x1 = (4 : Int32) then (some (x2 * x3, σ)) else (if x1 = (5 : Int32) then (wg_dv x2 x3 (q_X12_twoOf__1 σ)) else (if x1 = (6 : Int32) then (if x3 ≤ x2 then (some ((0 : Int32), σ)) else (some ((1 : Int32), σ))) else (if x1 = (7 : Int32) then (if x2 = x3 then (some ((1 : Int32), σ)) else (some ((0 : Int32), σ))) else (if x1 = (8 : Int32) then (if x2 ≤ x3 then (some ((0 : Int32), σ)) else (some ((1 : Int32), σ))) else (if x1 = (10 : Int32) then (some (x2 * x3, σ)) else (if (x2 + x3) ≤ 0 then (some ((0 : Int32), σ)) else (some ((1 : Int32), σ)))))))))) := rfl
def q_X12_runs_170__1 (k12 : Nat → Int32 → Int32 → Int32 → Int32 → wg_M → Option (Int32 × wg_M)) (x1 : Int32) (x3 : Int32) (x4 : Int32) (σ : wg_M) (v1 : Int32) : Option (Int32 × wg_M) := k12 0 x1 x3 x4 v1 σ
theorem e_X12_runs_170__1 (k12 : Nat → Int32 → Int32 → Int32 → Int32 → wg_M → Option (Int32 × wg_M)) (x1 : Int32) (x3 : Int32) (x4 : Int32) (σ : wg_M) (v1 : Int32) : q_X12_runs_170__1 k12 x1 x3 x4 σ v1 = k12 0 x1 x3 x4 v1 σ := rfl
theorem e_X12_runs_170 (k12 : Nat → Int32 → Int32 → Int32 → Int32 → wg_M → Option (Int32 × wg_M)) (x1 : Int32) (x3 : Int32) (x4 : Int32) (x5 : Int32) (σ : wg_M) : f_X12_runs_170 k12 0 x1 x3 x4 x5 σ = wg_let (x5 + (1 : Int32)) (q_X12_runs_170__1 k12 x1 x3 x4 σ) := rfl
def q_X12_runs_83__2 (k12 : Nat → Int32 → Int32 → Int32 → Int32 → wg_M → Option (Int32 × wg_M)) (x1 : Int32) (x3 : Int32) (x5 : Int32) (s1 : wg_M) (v2 : Int32) : Option (Int32 × wg_M) := f_X12_runs_170 k12 0 x1 x3 v2 x5 s1
def q_X12_runs_83__1 (k12 : Nat → Int32 → Int32 → Int32 → Int32 → wg_M → Option (Int32 × wg_M)) (x1 : Int32) (x3 : Int32) (x4 : Int32) (x5 : Int32) (s1 : wg_M) : Option (Int32 × wg_M) := wg_let (x4 + (1 : Int32)) (q_X12_runs_83__2 k12 x1 x3 x5 s1)
theorem e_X12_runs_83__1 (k12 : Nat → Int32 → Int32 → Int32 → Int32 → wg_M → Option (Int32 × wg_M)) (x1 : Int32) (x3 : Int32) (x4 : Int32) (x5 : Int32) (s1 : wg_M) : q_X12_runs_83__1 k12 x1 x3 x4 x5 s1 = wg_let (x4 + (1 : Int32)) (q_X12_runs_83__2 k12 x1 x3 x5 s1) := rfl
theorem e_X12_runs_83__2 (k12 : Nat → Int32 → Int32 → Int32 → Int32 → wg_M → Option (Int32 × wg_M)) (x1 : Int32) (x3 : Int32) (x5 : Int32) (s1 : wg_M) (v2 : Int32) : q_X12_runs_83__2 k12 x1 x3 x5 s1 v2 = f_X12_runs_170 k12 0 x1 x3 v2 x5 s1 := rfl
theorem e_X12_runs_83 (k12 : Nat → Int32 → Int32 → Int32 → Int32 → wg_M → Option (Int32 × wg_M)) (x1 : Int32) (x3 : Int32) (x4 : Int32) (x5 : Int32) (t0 : Int32) (t1 : Int32) (t2 : Nat) (σ : wg_M) : f_X12_runs_83 k12 0 x1 x3 x4 x5 t0 t1 t2 σ = wg_sa (wg_n Sm t2) σ t2 t1 t0 (q_X12_runs_83__1 k12 x1 x3 x4 x5) := rfl
def q_X12_runs_45__4 (k12 : Nat → Int32 → Int32 → Int32 → Int32 → wg_M → Option (Int32 × wg_M)) (x1 : Int32) (x3 : Int32) (x4 : Int32) (x5 : Int32) (σ : wg_M) (v3 : Int32) : Option (Int32 × wg_M) := f_X12_runs_83 k12 0 x1 x3 x4 x5 v3 x4 23 σ
def q_X12_runs_45__3 (k12 : Nat → Int32 → Int32 → Int32 → Int32 → wg_M → Option (Int32 × wg_M)) (x1 : Int32) (x3 : Int32) (x4 : Int32) (x5 : Int32) (σ : wg_M) (v2 : Int32) : Option (Int32 × wg_M) := wg_ga 10 (σ 22) v2 (q_X12_runs_45__4 k12 x1 x3 x4 x5 σ)
def q_X12_runs_45__2 (k12 : Nat → Int32 → Int32 → Int32 → Int32 → wg_M → Option (Int32 × wg_M)) (x1 : Int32) (x3 : Int32) (x4 : Int32) (x5 : Int32) (σ : wg_M) (v4 : Int32) : Option (Int32 × wg_M) := f_X12_runs_83 k12 0 x1 x3 x4 x5 v4 x4 23 σ
def q_X12_runs_45__1 (k12 : Nat → Int32 → Int32 → Int32 → Int32 → wg_M → Option (Int32 × wg_M)) (x1 : Int32) (x3 : Int32) (x4 : Int32) (x5 : Int32) (σ : wg_M) (v1 : Int32) : Option (Int32 × wg_M) := if v1 = 0 then (wg_ga 1200 (σ 17) x5 (q_X12_runs_45__2 k12 x1 x3 x4 x5 σ)) else (wg_ga 1200 (σ 17) x5 (q_X12_runs_45__3 k12 x1 x3 x4 x5 σ))
theorem e_X12_runs_45__1 (k12 : Nat → Int32 → Int32 → Int32 → Int32 → wg_M → Option (Int32 × wg_M)) (x1 : Int32) (x3 : Int32) (x4 : Int32) (x5 : Int32) (σ : wg_M) (v1 : Int32) : q_X12_runs_45__1 k12 x1 x3 x4 x5 σ v1 = if v1 = 0 then (wg_ga 1200 (σ 17) x5 (q_X12_runs_45__2 k12 x1 x3 x4 x5 σ)) else (wg_ga 1200 (σ 17) x5 (q_X12_runs_45__3 k12 x1 x3 x4 x5 σ)) := rfl
theorem e_X12_runs_45__2 (k12 : Nat → Int32 → Int32 → Int32 → Int32 → wg_M → Option (Int32 × wg_M)) (x1 : Int32) (x3 : Int32) (x4 : Int32) (x5 : Int32) (σ : wg_M) (v4 : Int32) : q_X12_runs_45__2 k12 x1 x3 x4 x5 σ v4 = f_X12_runs_83 k12 0 x1 x3 x4 x5 v4 x4 23 σ := rfl
theorem e_X12_runs_45__3 (k12 : Nat → Int32 → Int32 → Int32 → Int32 → wg_M → Option (Int32 × wg_M)) (x1 : Int32) (x3 : Int32) (x4 : Int32) (x5 : Int32) (σ : wg_M) (v2 : Int32) : q_X12_runs_45__3 k12 x1 x3 x4 x5 σ v2 = wg_ga 10 (σ 22) v2 (q_X12_runs_45__4 k12 x1 x3 x4 x5 σ) := rfl
theorem e_X12_runs_45__4 (k12 : Nat → Int32 → Int32 → Int32 → Int32 → wg_M → Option (Int32 × wg_M)) (x1 : Int32) (x3 : Int32) (x4 : Int32) (x5 : Int32) (σ : wg_M) (v3 : Int32) : q_X12_runs_45__4 k12 x1 x3 x4 x5 σ v3 = f_X12_runs_83 k12 0 x1 x3 x4 x5 v3 x4 23 σ := rfl
theorem e_X12_runs_45 (k12 : Nat → Int32 → Int32 → Int32 → Int32 → wg_M → Option (Int32 × wg_M)) (x1 : Int32) (x3 : Int32) (x4 : Int32) (x5 : Int32) (σ : wg_M) : f_X12_runs_45 k12 0 x1 x3 x4 x5 σ = wg_ga 1200 (σ 16) x5 (q_X12_runs_45__1 k12 x1 x3 x4 x5 σ) := by
  unfold f_X12_runs_45
  simp only [sm_n16, sm_n17, sm_n22, sm_r0_26, sm_r0_27, sm_r0_43, sm_r0_44]
  rfl
def q_X12_runs_12__12 (n : Nat) (x1 : Int32) (x3 : Int32) (x5 : Int32) (v5 : Int32) (s11 : wg_M) : Option (Int32 × wg_M) := f_X12_runs_170 (f_X12_runs_12  n) 0 x1 x3 v5 x5 s11
def q_X12_runs_12__11 (n : Nat) (x1 : Int32) (x3 : Int32) (x5 : Int32) (v5 : Int32) (v9 : Int32) (s10 : wg_M) : Option (Int32 × wg_M) := wg_sa 420 s10 23 (v5 - (1 : Int32)) v9 (q_X12_runs_12__12 n x1 x3 x5 v5)
def q_X12_runs_12__10 (n : Nat) (x1 : Int32) (x3 : Int32) (x5 : Int32) (σ : wg_M) (v5 : Int32) (v6 : Int32) (v7 : Int32) (v8 : Int32) : Option (Int32 × wg_M) := wg_bd (f_X12_twoOf 0 v6 v7 v8 σ) (q_X12_runs_12__11 n x1 x3 x5 v5)
def q_X12_runs_12__9 (n : Nat) (x1 : Int32) (x3 : Int32) (x5 : Int32) (σ : wg_M) (v5 : Int32) (v6 : Int32) (v7 : Int32) : Option (Int32 × wg_M) := wg_ga 420 (σ 23) v5 (q_X12_runs_12__10 n x1 x3 x5 σ v5 v6 v7)
def q_X12_runs_12__8 (n : Nat) (x1 : Int32) (x3 : Int32) (x5 : Int32) (σ : wg_M) (v5 : Int32) (v6 : Int32) : Option (Int32 × wg_M) := wg_ga 420 (σ 23) (v5 - (1 : Int32)) (q_X12_runs_12__9 n x1 x3 x5 σ v5 v6)
def q_X12_runs_12__7 (n : Nat) (x1 : Int32) (x3 : Int32) (x5 : Int32) (σ : wg_M) (v5 : Int32) : Option (Int32 × wg_M) := wg_ga 1200 (σ 16) x5 (q_X12_runs_12__8 n x1 x3 x5 σ v5)
def q_X12_runs_12__6 (n : Nat) (x1 : Int32) (x3 : Int32) (x4 : Int32) (x5 : Int32) (s13 : wg_M) : Option (Int32 × wg_M) := f_X12_runs_170 (f_X12_runs_12  n) 0 x1 x3 x4 x5 s13
def q_X12_runs_12__5 (n : Nat) (x1 : Int32) (x3 : Int32) (x4 : Int32) (x5 : Int32) (σ : wg_M) (v12 : Int32) : Option (Int32 × wg_M) := wg_sa 420 σ 23 (x4 - (1 : Int32)) ((1 : Int32) - v12) (q_X12_runs_12__6 n x1 x3 x4 x5)
def q_X12_runs_12__4 (n : Nat) (x1 : Int32) (x3 : Int32) (x4 : Int32) (x5 : Int32) (σ : wg_M) (v4 : Int32) : Option (Int32 × wg_M) := if v4 = (9 : Int32) then (wg_ga 420 (σ 23) (x4 - (1 : Int32)) (q_X12_runs_12__5 n x1 x3 x4 x5 σ)) else (wg_let (x4 - (1 : Int32)) (q_X12_runs_12__7 n x1 x3 x5 σ))
def q_X12_runs_12__3 (n : Nat) (x1 : Int32) (x3 : Int32) (x4 : Int32) (x5 : Int32) (σ : wg_M) (v3 : Int32) : Option (Int32 × wg_M) := if v3 = (1 : Int32) then (f_X12_runs_45 (f_X12_runs_12  n) 0 x1 x3 x4 x5 σ) else (wg_ga 1200 (σ 16) x5 (q_X12_runs_12__4 n x1 x3 x4 x5 σ))
def q_X12_runs_12__2 (n : Nat) (x1 : Int32) (x3 : Int32) (x4 : Int32) (x5 : Int32) (σ : wg_M) (v2 : Int32) : Option (Int32 × wg_M) := if v2 = 0 then (f_X12_runs_45 (f_X12_runs_12  n) 0 x1 x3 x4 x5 σ) else (wg_ga 1200 (σ 16) x5 (q_X12_runs_12__3 n x1 x3 x4 x5 σ))
def q_X12_runs_12__1 (σ : wg_M) (v1 : Int32) : Option (Int32 × wg_M) := some (v1, σ)
theorem e_X12_runs_12__1 (σ : wg_M) (v1 : Int32) : q_X12_runs_12__1 σ v1 = some (v1, σ) := rfl
theorem e_X12_runs_12__2 (n : Nat) (x1 : Int32) (x3 : Int32) (x4 : Int32) (x5 : Int32) (σ : wg_M) (v2 : Int32) : q_X12_runs_12__2 n x1 x3 x4 x5 σ v2 = if v2 = 0 then (f_X12_runs_45 (f_X12_runs_12  n) 0 x1 x3 x4 x5 σ) else (wg_ga 1200 (σ 16) x5 (q_X12_runs_12__3 n x1 x3 x4 x5 σ)) := rfl
theorem e_X12_runs_12__3 (n : Nat) (x1 : Int32) (x3 : Int32) (x4 : Int32) (x5 : Int32) (σ : wg_M) (v3 : Int32) : q_X12_runs_12__3 n x1 x3 x4 x5 σ v3 = if v3 = (1 : Int32) then (f_X12_runs_45 (f_X12_runs_12  n) 0 x1 x3 x4 x5 σ) else (wg_ga 1200 (σ 16) x5 (q_X12_runs_12__4 n x1 x3 x4 x5 σ)) := rfl
theorem e_X12_runs_12__4 (n : Nat) (x1 : Int32) (x3 : Int32) (x4 : Int32) (x5 : Int32) (σ : wg_M) (v4 : Int32) : q_X12_runs_12__4 n x1 x3 x4 x5 σ v4 = if v4 = (9 : Int32) then (wg_ga 420 (σ 23) (x4 - (1 : Int32)) (q_X12_runs_12__5 n x1 x3 x4 x5 σ)) else (wg_let (x4 - (1 : Int32)) (q_X12_runs_12__7 n x1 x3 x5 σ)) := rfl
theorem e_X12_runs_12__5 (n : Nat) (x1 : Int32) (x3 : Int32) (x4 : Int32) (x5 : Int32) (σ : wg_M) (v12 : Int32) : q_X12_runs_12__5 n x1 x3 x4 x5 σ v12 = wg_sa 420 σ 23 (x4 - (1 : Int32)) ((1 : Int32) - v12) (q_X12_runs_12__6 n x1 x3 x4 x5) := rfl
theorem e_X12_runs_12__6 (n : Nat) (x1 : Int32) (x3 : Int32) (x4 : Int32) (x5 : Int32) (s13 : wg_M) : q_X12_runs_12__6 n x1 x3 x4 x5 s13 = f_X12_runs_170 (f_X12_runs_12  n) 0 x1 x3 x4 x5 s13 := rfl
theorem e_X12_runs_12__7 (n : Nat) (x1 : Int32) (x3 : Int32) (x5 : Int32) (σ : wg_M) (v5 : Int32) : q_X12_runs_12__7 n x1 x3 x5 σ v5 = wg_ga 1200 (σ 16) x5 (q_X12_runs_12__8 n x1 x3 x5 σ v5) := rfl
theorem e_X12_runs_12__8 (n : Nat) (x1 : Int32) (x3 : Int32) (x5 : Int32) (σ : wg_M) (v5 : Int32) (v6 : Int32) : q_X12_runs_12__8 n x1 x3 x5 σ v5 v6 = wg_ga 420 (σ 23) (v5 - (1 : Int32)) (q_X12_runs_12__9 n x1 x3 x5 σ v5 v6) := rfl
theorem e_X12_runs_12__9 (n : Nat) (x1 : Int32) (x3 : Int32) (x5 : Int32) (σ : wg_M) (v5 : Int32) (v6 : Int32) (v7 : Int32) : q_X12_runs_12__9 n x1 x3 x5 σ v5 v6 v7 = wg_ga 420 (σ 23) v5 (q_X12_runs_12__10 n x1 x3 x5 σ v5 v6 v7) := rfl
theorem e_X12_runs_12__10 (n : Nat) (x1 : Int32) (x3 : Int32) (x5 : Int32) (σ : wg_M) (v5 : Int32) (v6 : Int32) (v7 : Int32) (v8 : Int32) : q_X12_runs_12__10 n x1 x3 x5 σ v5 v6 v7 v8 = wg_bd (f_X12_twoOf 0 v6 v7 v8 σ) (q_X12_runs_12__11 n x1 x3 x5 v5) := rfl
theorem e_X12_runs_12__11 (n : Nat) (x1 : Int32) (x3 : Int32) (x5 : Int32) (v5 : Int32) (v9 : Int32) (s10 : wg_M) : q_X12_runs_12__11 n x1 x3 x5 v5 v9 s10 = wg_sa 420 s10 23 (v5 - (1 : Int32)) v9 (q_X12_runs_12__12 n x1 x3 x5 v5) := rfl
theorem e_X12_runs_12__12 (n : Nat) (x1 : Int32) (x3 : Int32) (x5 : Int32) (v5 : Int32) (s11 : wg_M) : q_X12_runs_12__12 n x1 x3 x5 v5 s11 = f_X12_runs_170 (f_X12_runs_12  n) 0 x1 x3 v5 x5 s11 := rfl
theorem e_X12_runs_12 (n : Nat) (x1 : Int32) (x3 : Int32) (x4 : Int32) (x5 : Int32) (σ : wg_M) : f_X12_runs_12 (n + 1) 0 x1 x3 x4 x5 σ = if (((400 : Int32) * x1) + x3) ≤ x5 then (wg_ga 420 (σ 23) (0 : Int32) (q_X12_runs_12__1 σ)) else (wg_ga 1200 (σ 16) x5 (q_X12_runs_12__2 n x1 x3 x4 x5 σ)) := by
  rw [f_X12_runs_12]
  simp only [sm_n16, sm_n23, sm_r0_26, sm_r0_44]
  rfl
def q_X12_runs__1 (x1 : Int32) (x3 : Int32) (σ : wg_M) (v1 : Int32) : Option (Int32 × wg_M) := f_X12_runs_12  wg_N 0 x1 x3 (0 : Int32) v1 σ
theorem e_X12_runs__1 (x1 : Int32) (x3 : Int32) (σ : wg_M) (v1 : Int32) : q_X12_runs__1 x1 x3 σ v1 = f_X12_runs_12  wg_N 0 x1 x3 (0 : Int32) v1 σ := rfl
theorem e_X12_runs (x1 : Int32) (x2 : Int32) (x3 : Int32) (σ : wg_M) : f_X12_runs 0 x1 x2 x3 σ = wg_let (((400 : Int32) * x1) + x2) (q_X12_runs__1 x1 x3 σ) := rfl
def q_X12_lineOf_59__1 (k2 : Nat → Int32 → Int32 → wg_M → Option (Int32 × wg_M)) (x1 : Int32) (σ : wg_M) (v1 : Int32) : Option (Int32 × wg_M) := k2 0 x1 v1 σ
theorem e_X12_lineOf_59__1 (k2 : Nat → Int32 → Int32 → wg_M → Option (Int32 × wg_M)) (x1 : Int32) (σ : wg_M) (v1 : Int32) : q_X12_lineOf_59__1 k2 x1 σ v1 = k2 0 x1 v1 σ := rfl
theorem e_X12_lineOf_59 (k2 : Nat → Int32 → Int32 → wg_M → Option (Int32 × wg_M)) (x1 : Int32) (x2 : Int32) (σ : wg_M) : f_X12_lineOf_59 k2 0 x1 x2 σ = wg_let (x2 + (1 : Int32)) (q_X12_lineOf_59__1 k2 x1 σ) := rfl
def q_X12_lineOf_2__7 (n : Nat) (x1 : Int32) (x2 : Int32) (v7 : Int32) (s8 : wg_M) : Option (Int32 × wg_M) := if v7 = 0 then (f_X12_lineOf_59 (f_X12_lineOf_2  n) 0 x1 x2 s8) else (some (x2, s8))
def q_X12_lineOf_2__6 (n : Nat) (x1 : Int32) (x2 : Int32) (σ : wg_M) (v5 : Int32) (v6 : Int32) : Option (Int32 × wg_M) := wg_bd (f_X12_runs 0 (0 : Int32) v5 v6 σ) (q_X12_lineOf_2__7 n x1 x2)
def q_X12_lineOf_2__5 (n : Nat) (x1 : Int32) (x2 : Int32) (σ : wg_M) (v5 : Int32) : Option (Int32 × wg_M) := wg_ga 48 (σ 15) x2 (q_X12_lineOf_2__6 n x1 x2 σ v5)
def q_X12_lineOf_2__4 (n : Nat) (x1 : Int32) (x2 : Int32) (σ : wg_M) (v3 : Int32) (v4 : Int32) : Option (Int32 × wg_M) := if v3 = v4 then (some (x2, σ)) else (wg_ga 48 (σ 14) x2 (q_X12_lineOf_2__5 n x1 x2 σ))
def q_X12_lineOf_2__3 (n : Nat) (x1 : Int32) (x2 : Int32) (σ : wg_M) (v3 : Int32) : Option (Int32 × wg_M) := wg_ga 48 (σ 15) x2 (q_X12_lineOf_2__4 n x1 x2 σ v3)
def q_X12_lineOf_2__2 (n : Nat) (x1 : Int32) (x2 : Int32) (σ : wg_M) (v2 : Int32) : Option (Int32 × wg_M) := if v2 = x1 then (wg_ga 48 (σ 14) x2 (q_X12_lineOf_2__3 n x1 x2 σ)) else (f_X12_lineOf_59 (f_X12_lineOf_2  n) 0 x1 x2 σ)
def q_X12_lineOf_2__1 (n : Nat) (x1 : Int32) (x2 : Int32) (σ : wg_M) (v1 : Int32) : Option (Int32 × wg_M) := if v1 ≤ x2 then (some ((-1 : Int32), σ)) else (wg_ga 48 (σ 12) x2 (q_X12_lineOf_2__2 n x1 x2 σ))
theorem e_X12_lineOf_2__1 (n : Nat) (x1 : Int32) (x2 : Int32) (σ : wg_M) (v1 : Int32) : q_X12_lineOf_2__1 n x1 x2 σ v1 = if v1 ≤ x2 then (some ((-1 : Int32), σ)) else (wg_ga 48 (σ 12) x2 (q_X12_lineOf_2__2 n x1 x2 σ)) := rfl
theorem e_X12_lineOf_2__2 (n : Nat) (x1 : Int32) (x2 : Int32) (σ : wg_M) (v2 : Int32) : q_X12_lineOf_2__2 n x1 x2 σ v2 = if v2 = x1 then (wg_ga 48 (σ 14) x2 (q_X12_lineOf_2__3 n x1 x2 σ)) else (f_X12_lineOf_59 (f_X12_lineOf_2  n) 0 x1 x2 σ) := rfl
theorem e_X12_lineOf_2__3 (n : Nat) (x1 : Int32) (x2 : Int32) (σ : wg_M) (v3 : Int32) : q_X12_lineOf_2__3 n x1 x2 σ v3 = wg_ga 48 (σ 15) x2 (q_X12_lineOf_2__4 n x1 x2 σ v3) := rfl
theorem e_X12_lineOf_2__4 (n : Nat) (x1 : Int32) (x2 : Int32) (σ : wg_M) (v3 : Int32) (v4 : Int32) : q_X12_lineOf_2__4 n x1 x2 σ v3 v4 = if v3 = v4 then (some (x2, σ)) else (wg_ga 48 (σ 14) x2 (q_X12_lineOf_2__5 n x1 x2 σ)) := rfl
theorem e_X12_lineOf_2__5 (n : Nat) (x1 : Int32) (x2 : Int32) (σ : wg_M) (v5 : Int32) : q_X12_lineOf_2__5 n x1 x2 σ v5 = wg_ga 48 (σ 15) x2 (q_X12_lineOf_2__6 n x1 x2 σ v5) := rfl
theorem e_X12_lineOf_2__6 (n : Nat) (x1 : Int32) (x2 : Int32) (σ : wg_M) (v5 : Int32) (v6 : Int32) : q_X12_lineOf_2__6 n x1 x2 σ v5 v6 = wg_bd (f_X12_runs 0 (0 : Int32) v5 v6 σ) (q_X12_lineOf_2__7 n x1 x2) := rfl
theorem e_X12_lineOf_2__7 (n : Nat) (x1 : Int32) (x2 : Int32) (v7 : Int32) (s8 : wg_M) : q_X12_lineOf_2__7 n x1 x2 v7 s8 = if v7 = 0 then (f_X12_lineOf_59 (f_X12_lineOf_2  n) 0 x1 x2 s8) else (some (x2, s8)) := rfl
theorem e_X12_lineOf_2 (n : Nat) (x1 : Int32) (x2 : Int32) (σ : wg_M) : f_X12_lineOf_2 (n + 1) 0 x1 x2 σ = wg_ga 2 (σ 11) (0 : Int32) (q_X12_lineOf_2__1 n x1 x2 σ) := by
  rw [f_X12_lineOf_2]
  simp only [sm_n11, sm_n12, sm_n14, sm_n15, sm_r0_21, sm_r0_22, sm_r0_24, sm_r0_25]
  rfl
theorem e_X12_lineOf (x1 : Int32) (σ : wg_M) : f_X12_lineOf 0 x1 σ = f_X12_lineOf_2  wg_N 0 x1 (0 : Int32) σ := rfl
def q_X12_asks_177__3 (s3 : wg_M) : Option (Int32 × wg_M) := some (0, s3)
def q_X12_asks_177__2 (s1 : wg_M) (v2 : Int32) : Option (Int32 × wg_M) := wg_sa 10 s1 22 (9 : Int32) v2 q_X12_asks_177__3
def q_X12_asks_177__1 (s1 : wg_M) : Option (Int32 × wg_M) := wg_ga 295 (s1 1) (0 : Int32) (q_X12_asks_177__2 s1)
theorem e_X12_asks_177__1 (s1 : wg_M) : q_X12_asks_177__1 s1 = wg_ga 295 (s1 1) (0 : Int32) (q_X12_asks_177__2 s1) := rfl
theorem e_X12_asks_177__2 (s1 : wg_M) (v2 : Int32) : q_X12_asks_177__2 s1 v2 = wg_sa 10 s1 22 (9 : Int32) v2 q_X12_asks_177__3 := rfl
theorem e_X12_asks_177__3 (s3 : wg_M) : q_X12_asks_177__3 s3 = some (0, s3) := rfl
theorem e_X12_asks_177 (t0 : Int32) (t1 : Int32) (t2 : Nat) (σ : wg_M) : f_X12_asks_177 0 t0 t1 t2 σ = wg_sa (wg_n Sm t2) σ t2 t1 t0 q_X12_asks_177__1 := by
  unfold f_X12_asks_177
  simp only [sm_n1, sm_n22, sm_r0_1, sm_r0_43]
  rfl
def q_X12_asks_136__4 (s3 : wg_M) (v4 : Int32) : Option (Int32 × wg_M) := f_X12_asks_177  0 v4 (8 : Int32) 22 s3
def q_X12_asks_136__3 (x1 : Int32) (s3 : wg_M) : Option (Int32 × wg_M) := if x1 = (-1 : Int32) then (f_X12_asks_177  0 (0 : Int32) (8 : Int32) 22 s3) else (wg_ga 295 (s3 1) ((33 : Int32) + x1) (q_X12_asks_136__4 s3))
def q_X12_asks_136__2 (x1 : Int32) (s2 : wg_M) : Option (Int32 × wg_M) := wg_sa 10 s2 22 (7 : Int32) (0 : Int32) (q_X12_asks_136__3 x1)
def q_X12_asks_136__1 (x1 : Int32) (s1 : wg_M) : Option (Int32 × wg_M) := wg_sa 10 s1 22 (6 : Int32) (0 : Int32) (q_X12_asks_136__2 x1)
theorem e_X12_asks_136__1 (x1 : Int32) (s1 : wg_M) : q_X12_asks_136__1 x1 s1 = wg_sa 10 s1 22 (6 : Int32) (0 : Int32) (q_X12_asks_136__2 x1) := rfl
theorem e_X12_asks_136__2 (x1 : Int32) (s2 : wg_M) : q_X12_asks_136__2 x1 s2 = wg_sa 10 s2 22 (7 : Int32) (0 : Int32) (q_X12_asks_136__3 x1) := rfl
theorem e_X12_asks_136__3 (x1 : Int32) (s3 : wg_M) : q_X12_asks_136__3 x1 s3 = if x1 = (-1 : Int32) then (f_X12_asks_177  0 (0 : Int32) (8 : Int32) 22 s3) else (wg_ga 295 (s3 1) ((33 : Int32) + x1) (q_X12_asks_136__4 s3)) := rfl
theorem e_X12_asks_136__4 (s3 : wg_M) (v4 : Int32) : q_X12_asks_136__4 s3 v4 = f_X12_asks_177  0 v4 (8 : Int32) 22 s3 := rfl
theorem e_X12_asks_136 (x1 : Int32) (t0 : Int32) (t1 : Int32) (t2 : Nat) (σ : wg_M) : f_X12_asks_136 0 x1 t0 t1 t2 σ = wg_sa (wg_n Sm t2) σ t2 t1 t0 (q_X12_asks_136__1 x1) := by
  unfold f_X12_asks_136
  simp only [sm_n1, sm_n22, sm_r0_1, sm_r0_43]
  rfl
def q_X12_asks_112__2 (x1 : Int32) (s1 : wg_M) (v2 : Int32) : Option (Int32 × wg_M) := f_X12_asks_136  0 x1 v2 (5 : Int32) 22 s1
def q_X12_asks_112__1 (x1 : Int32) (x2 : Int32) (s1 : wg_M) : Option (Int32 × wg_M) := if x2 = (-1 : Int32) then (f_X12_asks_136  0 x1 (0 : Int32) (5 : Int32) 22 s1) else (wg_ga 295 (s1 1) ((59 : Int32) + x2) (q_X12_asks_112__2 x1 s1))
theorem e_X12_asks_112__1 (x1 : Int32) (x2 : Int32) (s1 : wg_M) : q_X12_asks_112__1 x1 x2 s1 = if x2 = (-1 : Int32) then (f_X12_asks_136  0 x1 (0 : Int32) (5 : Int32) 22 s1) else (wg_ga 295 (s1 1) ((59 : Int32) + x2) (q_X12_asks_112__2 x1 s1)) := rfl
theorem e_X12_asks_112__2 (x1 : Int32) (s1 : wg_M) (v2 : Int32) : q_X12_asks_112__2 x1 s1 v2 = f_X12_asks_136  0 x1 v2 (5 : Int32) 22 s1 := rfl
theorem e_X12_asks_112 (x1 : Int32) (x2 : Int32) (t0 : Int32) (t1 : Int32) (t2 : Nat) (σ : wg_M) : f_X12_asks_112 0 x1 x2 t0 t1 t2 σ = wg_sa (wg_n Sm t2) σ t2 t1 t0 (q_X12_asks_112__1 x1 x2) := by
  unfold f_X12_asks_112
  simp only [sm_n1, sm_r0_1, sm_r0_43]
  rfl
def q_X12_asks_88__2 (x1 : Int32) (x2 : Int32) (s1 : wg_M) (v2 : Int32) : Option (Int32 × wg_M) := f_X12_asks_112  0 x1 x2 v2 (4 : Int32) 22 s1
def q_X12_asks_88__1 (x1 : Int32) (x2 : Int32) (s1 : wg_M) : Option (Int32 × wg_M) := if x2 = (-1 : Int32) then (f_X12_asks_112  0 x1 x2 (0 : Int32) (4 : Int32) 22 s1) else (wg_ga 295 (s1 1) ((51 : Int32) + x2) (q_X12_asks_88__2 x1 x2 s1))
theorem e_X12_asks_88__1 (x1 : Int32) (x2 : Int32) (s1 : wg_M) : q_X12_asks_88__1 x1 x2 s1 = if x2 = (-1 : Int32) then (f_X12_asks_112  0 x1 x2 (0 : Int32) (4 : Int32) 22 s1) else (wg_ga 295 (s1 1) ((51 : Int32) + x2) (q_X12_asks_88__2 x1 x2 s1)) := rfl
theorem e_X12_asks_88__2 (x1 : Int32) (x2 : Int32) (s1 : wg_M) (v2 : Int32) : q_X12_asks_88__2 x1 x2 s1 v2 = f_X12_asks_112  0 x1 x2 v2 (4 : Int32) 22 s1 := rfl
theorem e_X12_asks_88 (x1 : Int32) (x2 : Int32) (t0 : Int32) (t1 : Int32) (t2 : Nat) (σ : wg_M) : f_X12_asks_88 0 x1 x2 t0 t1 t2 σ = wg_sa (wg_n Sm t2) σ t2 t1 t0 (q_X12_asks_88__1 x1 x2) := by
  unfold f_X12_asks_88
  simp only [sm_n1, sm_r0_1, sm_r0_43]
  rfl
def q_X12_asks_64__2 (x1 : Int32) (x2 : Int32) (s1 : wg_M) (v2 : Int32) : Option (Int32 × wg_M) := f_X12_asks_88  0 x1 x2 v2 (3 : Int32) 22 s1
def q_X12_asks_64__1 (x1 : Int32) (x2 : Int32) (s1 : wg_M) : Option (Int32 × wg_M) := if x2 = (-1 : Int32) then (f_X12_asks_88  0 x1 x2 (0 : Int32) (3 : Int32) 22 s1) else (wg_ga 295 (s1 1) ((43 : Int32) + x2) (q_X12_asks_64__2 x1 x2 s1))
theorem e_X12_asks_64__1 (x1 : Int32) (x2 : Int32) (s1 : wg_M) : q_X12_asks_64__1 x1 x2 s1 = if x2 = (-1 : Int32) then (f_X12_asks_88  0 x1 x2 (0 : Int32) (3 : Int32) 22 s1) else (wg_ga 295 (s1 1) ((43 : Int32) + x2) (q_X12_asks_64__2 x1 x2 s1)) := rfl
theorem e_X12_asks_64__2 (x1 : Int32) (x2 : Int32) (s1 : wg_M) (v2 : Int32) : q_X12_asks_64__2 x1 x2 s1 v2 = f_X12_asks_88  0 x1 x2 v2 (3 : Int32) 22 s1 := rfl
theorem e_X12_asks_64 (x1 : Int32) (x2 : Int32) (t0 : Int32) (t1 : Int32) (t2 : Nat) (σ : wg_M) : f_X12_asks_64 0 x1 x2 t0 t1 t2 σ = wg_sa (wg_n Sm t2) σ t2 t1 t0 (q_X12_asks_64__1 x1 x2) := by
  unfold f_X12_asks_64
  simp only [sm_n1, sm_r0_1, sm_r0_43]
  rfl
def q_X12_asks_43__2 (x1 : Int32) (x2 : Int32) (s1 : wg_M) (v2 : Int32) : Option (Int32 × wg_M) := f_X12_asks_64  0 x1 x2 v2 (2 : Int32) 22 s1
def q_X12_asks_43__1 (x1 : Int32) (x2 : Int32) (s1 : wg_M) : Option (Int32 × wg_M) := if x2 = (-1 : Int32) then (f_X12_asks_64  0 x1 x2 (0 : Int32) (2 : Int32) 22 s1) else (wg_ga 8 (s1 4) x2 (q_X12_asks_43__2 x1 x2 s1))
theorem e_X12_asks_43__1 (x1 : Int32) (x2 : Int32) (s1 : wg_M) : q_X12_asks_43__1 x1 x2 s1 = if x2 = (-1 : Int32) then (f_X12_asks_64  0 x1 x2 (0 : Int32) (2 : Int32) 22 s1) else (wg_ga 8 (s1 4) x2 (q_X12_asks_43__2 x1 x2 s1)) := rfl
theorem e_X12_asks_43__2 (x1 : Int32) (x2 : Int32) (s1 : wg_M) (v2 : Int32) : q_X12_asks_43__2 x1 x2 s1 v2 = f_X12_asks_64  0 x1 x2 v2 (2 : Int32) 22 s1 := rfl
theorem e_X12_asks_43 (x1 : Int32) (x2 : Int32) (t0 : Int32) (t1 : Int32) (t2 : Nat) (σ : wg_M) : f_X12_asks_43 0 x1 x2 t0 t1 t2 σ = wg_sa (wg_n Sm t2) σ t2 t1 t0 (q_X12_asks_43__1 x1 x2) := by
  unfold f_X12_asks_43
  simp only [sm_n4, sm_r0_9, sm_r0_43]
  rfl
def q_X12_asks_22__2 (x1 : Int32) (x2 : Int32) (s1 : wg_M) (v2 : Int32) : Option (Int32 × wg_M) := f_X12_asks_43  0 x1 x2 v2 (1 : Int32) 22 s1
def q_X12_asks_22__1 (x1 : Int32) (x2 : Int32) (s1 : wg_M) : Option (Int32 × wg_M) := if x1 = (-1 : Int32) then (f_X12_asks_43  0 x1 x2 (0 : Int32) (1 : Int32) 22 s1) else (wg_ga 10 (s1 5) x1 (q_X12_asks_22__2 x1 x2 s1))
theorem e_X12_asks_22__1 (x1 : Int32) (x2 : Int32) (s1 : wg_M) : q_X12_asks_22__1 x1 x2 s1 = if x1 = (-1 : Int32) then (f_X12_asks_43  0 x1 x2 (0 : Int32) (1 : Int32) 22 s1) else (wg_ga 10 (s1 5) x1 (q_X12_asks_22__2 x1 x2 s1)) := rfl
theorem e_X12_asks_22__2 (x1 : Int32) (x2 : Int32) (s1 : wg_M) (v2 : Int32) : q_X12_asks_22__2 x1 x2 s1 v2 = f_X12_asks_43  0 x1 x2 v2 (1 : Int32) 22 s1 := rfl
theorem e_X12_asks_22 (x1 : Int32) (x2 : Int32) (t0 : Int32) (t1 : Int32) (t2 : Nat) (σ : wg_M) : f_X12_asks_22 0 x1 x2 t0 t1 t2 σ = wg_sa (wg_n Sm t2) σ t2 t1 t0 (q_X12_asks_22__1 x1 x2) := by
  unfold f_X12_asks_22
  simp only [sm_n5, sm_r0_10, sm_r0_43]
  rfl
def q_X12_asks__1 (x1 : Int32) (x2 : Int32) (σ : wg_M) (v1 : Int32) : Option (Int32 × wg_M) := f_X12_asks_22  0 x1 x2 v1 (0 : Int32) 22 σ
theorem e_X12_asks__1 (x1 : Int32) (x2 : Int32) (σ : wg_M) (v1 : Int32) : q_X12_asks__1 x1 x2 σ v1 = f_X12_asks_22  0 x1 x2 v1 (0 : Int32) 22 σ := rfl
theorem e_X12_asks (x1 : Int32) (x2 : Int32) (σ : wg_M) : f_X12_asks 0 x1 x2 σ = if x1 = (-1 : Int32) then (f_X12_asks_22  0 x1 x2 (0 : Int32) (0 : Int32) 22 σ) else (wg_ga 295 (σ 1) ((3 : Int32) + x1) (q_X12_asks__1 x1 x2 σ)) := by
  unfold f_X12_asks
  simp only [sm_n1, sm_r0_1, sm_r0_43]
  rfl
def q_X12_lawTells_37__1 (v1 : Int32) (s2 : wg_M) : Option (Int32 × wg_M) := some (v1, s2)
theorem e_X12_lawTells_37__1 (v1 : Int32) (s2 : wg_M) : q_X12_lawTells_37__1 v1 s2 = some (v1, s2) := rfl
theorem e_X12_lawTells_37 (x3 : Int32) (t0 : Int32) (t1 : Nat) (σ : wg_M) : f_X12_lawTells_37 x3 t0 t1 σ = wg_bd (f_X12_held t1 t0 (0 : Int32) x3 σ) q_X12_lawTells_37__1 := rfl
def q_X12_lawTells__4 (x3 : Int32) (v5 : Int32) (s6 : wg_M) : Option (Int32 × wg_M) := f_X12_lawTells_37  x3 v5 0 s6
def q_X12_lawTells__3 (x3 : Int32) (s2 : wg_M) (v3 : Int32) (v4 : Int32) : Option (Int32 × wg_M) := wg_bd (f_X12_runs 0 (0 : Int32) v3 v4 s2) (q_X12_lawTells__4 x3)
def q_X12_lawTells__2 (x3 : Int32) (v1 : Int32) (s2 : wg_M) (v3 : Int32) : Option (Int32 × wg_M) := wg_ga 48 (s2 14) v1 (q_X12_lawTells__3 x3 s2 v3)
def q_X12_lawTells__1 (x2 : Int32) (x3 : Int32) (v1 : Int32) (s2 : wg_M) : Option (Int32 × wg_M) := if v1 = (-1 : Int32) then (f_X12_lawTells_37  x3 x2 0 s2) else (wg_ga 48 (s2 13) v1 (q_X12_lawTells__2 x3 v1 s2))
theorem e_X12_lawTells__1 (x2 : Int32) (x3 : Int32) (v1 : Int32) (s2 : wg_M) : q_X12_lawTells__1 x2 x3 v1 s2 = if v1 = (-1 : Int32) then (f_X12_lawTells_37  x3 x2 0 s2) else (wg_ga 48 (s2 13) v1 (q_X12_lawTells__2 x3 v1 s2)) := rfl
theorem e_X12_lawTells__2 (x3 : Int32) (v1 : Int32) (s2 : wg_M) (v3 : Int32) : q_X12_lawTells__2 x3 v1 s2 v3 = wg_ga 48 (s2 14) v1 (q_X12_lawTells__3 x3 s2 v3) := rfl
theorem e_X12_lawTells__3 (x3 : Int32) (s2 : wg_M) (v3 : Int32) (v4 : Int32) : q_X12_lawTells__3 x3 s2 v3 v4 = wg_bd (f_X12_runs 0 (0 : Int32) v3 v4 s2) (q_X12_lawTells__4 x3) := rfl
theorem e_X12_lawTells__4 (x3 : Int32) (v5 : Int32) (s6 : wg_M) : q_X12_lawTells__4 x3 v5 s6 = f_X12_lawTells_37  x3 v5 0 s6 := rfl
theorem e_X12_lawTells (x1 : Int32) (x2 : Int32) (x3 : Int32) (σ : wg_M) : f_X12_lawTells 0 x1 x2 x3 σ = wg_bd (f_X12_lineOf 0 x1 σ) (q_X12_lawTells__1 x2 x3) := by
  unfold f_X12_lawTells
  simp only [sm_n13, sm_n14, sm_r0_23, sm_r0_24]
  rfl
def q_X12_countsOf__9 (v11 : Int32) (s12 : wg_M) : Option (Int32 × wg_M) := some (v11, s12)
def q_X12_countsOf__8 (s9 : wg_M) (v10 : Int32) : Option (Int32 × wg_M) := wg_bd (f_X12_lawTells 0 (0 : Int32) v10 (99 : Int32) s9) q_X12_countsOf__9
def q_X12_countsOf__7 (s9 : wg_M) : Option (Int32 × wg_M) := wg_ga 10 (s9 22) (7 : Int32) (q_X12_countsOf__8 s9)
def q_X12_countsOf__6 (s7 : wg_M) (v8 : Int32) : Option (Int32 × wg_M) := wg_sa 10 s7 22 (7 : Int32) v8 q_X12_countsOf__7
def q_X12_countsOf__5 (v6 : Int32) (s7 : wg_M) : Option (Int32 × wg_M) := wg_ga 295 (s7 1) (v6 + (2 : Int32)) (q_X12_countsOf__6 s7)
def q_X12_countsOf__4 (x1 : Int32) (x2 : Int32) (s5 : wg_M) : Option (Int32 × wg_M) := wg_bd (f_X12_ruleAt 0 x1 x2 s5) q_X12_countsOf__5
def q_X12_countsOf__3 (x1 : Int32) (x2 : Int32) (s3 : wg_M) (v4 : Int32) : Option (Int32 × wg_M) := wg_sa 10 s3 22 (6 : Int32) v4 (q_X12_countsOf__4 x1 x2)
def q_X12_countsOf__2 (x1 : Int32) (x2 : Int32) (v2 : Int32) (s3 : wg_M) : Option (Int32 × wg_M) := wg_ga 295 (s3 1) v2 (q_X12_countsOf__3 x1 x2 s3)
def q_X12_countsOf__1 (x1 : Int32) (x2 : Int32) (_u1 : Int32) (s1 : wg_M) : Option (Int32 × wg_M) := wg_bd (f_X12_ruleAt 0 x1 x2 s1) (q_X12_countsOf__2 x1 x2)
theorem e_X12_countsOf__1 (x1 : Int32) (x2 : Int32) (_u1 : Int32) (s1 : wg_M) : q_X12_countsOf__1 x1 x2 _u1 s1 = wg_bd (f_X12_ruleAt 0 x1 x2 s1) (q_X12_countsOf__2 x1 x2) := rfl
theorem e_X12_countsOf__2 (x1 : Int32) (x2 : Int32) (v2 : Int32) (s3 : wg_M) : q_X12_countsOf__2 x1 x2 v2 s3 = wg_ga 295 (s3 1) v2 (q_X12_countsOf__3 x1 x2 s3) := rfl
theorem e_X12_countsOf__3 (x1 : Int32) (x2 : Int32) (s3 : wg_M) (v4 : Int32) : q_X12_countsOf__3 x1 x2 s3 v4 = wg_sa 10 s3 22 (6 : Int32) v4 (q_X12_countsOf__4 x1 x2) := rfl
theorem e_X12_countsOf__4 (x1 : Int32) (x2 : Int32) (s5 : wg_M) : q_X12_countsOf__4 x1 x2 s5 = wg_bd (f_X12_ruleAt 0 x1 x2 s5) q_X12_countsOf__5 := rfl
theorem e_X12_countsOf__5 (v6 : Int32) (s7 : wg_M) : q_X12_countsOf__5 v6 s7 = wg_ga 295 (s7 1) (v6 + (2 : Int32)) (q_X12_countsOf__6 s7) := rfl
theorem e_X12_countsOf__6 (s7 : wg_M) (v8 : Int32) : q_X12_countsOf__6 s7 v8 = wg_sa 10 s7 22 (7 : Int32) v8 q_X12_countsOf__7 := rfl
theorem e_X12_countsOf__7 (s9 : wg_M) : q_X12_countsOf__7 s9 = wg_ga 10 (s9 22) (7 : Int32) (q_X12_countsOf__8 s9) := rfl
theorem e_X12_countsOf__8 (s9 : wg_M) (v10 : Int32) : q_X12_countsOf__8 s9 v10 = wg_bd (f_X12_lawTells 0 (0 : Int32) v10 (99 : Int32) s9) q_X12_countsOf__9 := rfl
theorem e_X12_countsOf__9 (v11 : Int32) (s12 : wg_M) : q_X12_countsOf__9 v11 s12 = some (v11, s12) := rfl
theorem e_X12_countsOf (x1 : Int32) (x2 : Int32) (x3 : Int32) (σ : wg_M) : f_X12_countsOf 0 x1 x2 x3 σ = wg_bd (f_X12_asks 0 x3 x1 σ) (q_X12_countsOf__1 x1 x2) := by
  unfold f_X12_countsOf
  simp only [sm_n1, sm_n22, sm_r0_1, sm_r0_43]
  rfl
def q_X12_mothOf__4 (v4 : Int32) (s5 : wg_M) : Option (Int32 × wg_M) := some (v4, s5)
def q_X12_mothOf__3 (s1 : wg_M) (v3 : Int32) : Option (Int32 × wg_M) := wg_bd (f_X12_lawTells 0 (1 : Int32) ((1 : Int32) + v3) (99 : Int32) s1) q_X12_mothOf__4
def q_X12_mothOf__2 (s1 : wg_M) (v2 : Int32) : Option (Int32 × wg_M) := wg_dv v2 (9 : Int32) (q_X12_mothOf__3 s1)
def q_X12_mothOf__1 (x1 : Int32) (_u1 : Int32) (s1 : wg_M) : Option (Int32 × wg_M) := wg_ga 295 (s1 1) ((51 : Int32) + x1) (q_X12_mothOf__2 s1)
theorem e_X12_mothOf__1 (x1 : Int32) (_u1 : Int32) (s1 : wg_M) : q_X12_mothOf__1 x1 _u1 s1 = wg_ga 295 (s1 1) ((51 : Int32) + x1) (q_X12_mothOf__2 s1) := rfl
theorem e_X12_mothOf__2 (s1 : wg_M) (v2 : Int32) : q_X12_mothOf__2 s1 v2 = wg_dv v2 (9 : Int32) (q_X12_mothOf__3 s1) := rfl
theorem e_X12_mothOf__3 (s1 : wg_M) (v3 : Int32) : q_X12_mothOf__3 s1 v3 = wg_bd (f_X12_lawTells 0 (1 : Int32) ((1 : Int32) + v3) (99 : Int32) s1) q_X12_mothOf__4 := rfl
theorem e_X12_mothOf__4 (v4 : Int32) (s5 : wg_M) : q_X12_mothOf__4 v4 s5 = some (v4, s5) := rfl
theorem e_X12_mothOf (x1 : Int32) (σ : wg_M) : f_X12_mothOf 0 x1 σ = wg_bd (f_X12_asks 0 (-1 : Int32) x1 σ) (q_X12_mothOf__1 x1) := by
  unfold f_X12_mothOf
  simp only [sm_n1, sm_r0_1]
  rfl
def q_X12_diesOf__5 (v7 : Int32) (s8 : wg_M) : Option (Int32 × wg_M) := some (v7, s8)
def q_X12_diesOf__4 (v5 : Int32) (s6 : wg_M) : Option (Int32 × wg_M) := wg_bd (f_X12_lawTells 0 (2 : Int32) ((9 : Int32) * v5) (1000 : Int32) s6) q_X12_diesOf__5
def q_X12_diesOf__3 (s3 : wg_M) (v4 : Int32) : Option (Int32 × wg_M) := wg_bd (f_X12_greater 0 (0 : Int32) (v4 - (60 : Int32)) s3) q_X12_diesOf__4
def q_X12_diesOf__2 (x1 : Int32) (_u2 : Int32) (s3 : wg_M) : Option (Int32 × wg_M) := wg_ga 295 (s3 1) ((3 : Int32) + x1) (q_X12_diesOf__3 s3)
def q_X12_diesOf__1 (x1 : Int32) (v1 : Int32) (s2 : wg_M) : Option (Int32 × wg_M) := wg_bd (f_X12_asks 0 x1 v1 s2) (q_X12_diesOf__2 x1)
theorem e_X12_diesOf__1 (x1 : Int32) (v1 : Int32) (s2 : wg_M) : q_X12_diesOf__1 x1 v1 s2 = wg_bd (f_X12_asks 0 x1 v1 s2) (q_X12_diesOf__2 x1) := rfl
theorem e_X12_diesOf__2 (x1 : Int32) (_u2 : Int32) (s3 : wg_M) : q_X12_diesOf__2 x1 _u2 s3 = wg_ga 295 (s3 1) ((3 : Int32) + x1) (q_X12_diesOf__3 s3) := rfl
theorem e_X12_diesOf__3 (s3 : wg_M) (v4 : Int32) : q_X12_diesOf__3 s3 v4 = wg_bd (f_X12_greater 0 (0 : Int32) (v4 - (60 : Int32)) s3) q_X12_diesOf__4 := rfl
theorem e_X12_diesOf__4 (v5 : Int32) (s6 : wg_M) : q_X12_diesOf__4 v5 s6 = wg_bd (f_X12_lawTells 0 (2 : Int32) ((9 : Int32) * v5) (1000 : Int32) s6) q_X12_diesOf__5 := rfl
theorem e_X12_diesOf__5 (v7 : Int32) (s8 : wg_M) : q_X12_diesOf__5 v7 s8 = some (v7, s8) := rfl
theorem e_X12_diesOf (x1 : Int32) (σ : wg_M) : f_X12_diesOf 0 x1 σ = wg_bd (f_X12_wigOf 0 x1 σ) (q_X12_diesOf__1 x1) := by
  unfold f_X12_diesOf
  simp only [sm_n1, sm_r0_1]
  rfl
def q_X12_notes__10 (s10 : wg_M) : Option (Int32 × wg_M) := some (0, s10)
def q_X12_notes__9 (s8 : wg_M) (v9 : Int32) : Option (Int32 × wg_M) := wg_sa 295 s8 1 (2 : Int32) (v9 + (1 : Int32)) q_X12_notes__10
def q_X12_notes__8 (s8 : wg_M) : Option (Int32 × wg_M) := wg_ga 295 (s8 1) (2 : Int32) (q_X12_notes__9 s8)
def q_X12_notes__7 (x3 : Int32) (v3 : Int32) (s7 : wg_M) : Option (Int32 × wg_M) := wg_sa 600 s7 8 (v3 + (3 : Int32)) x3 q_X12_notes__8
def q_X12_notes__6 (x2 : Int32) (x3 : Int32) (v3 : Int32) (s6 : wg_M) : Option (Int32 × wg_M) := wg_sa 600 s6 8 (v3 + (2 : Int32)) x2 (q_X12_notes__7 x3 v3)
def q_X12_notes__5 (x1 : Int32) (x2 : Int32) (x3 : Int32) (v3 : Int32) (s5 : wg_M) : Option (Int32 × wg_M) := wg_sa 600 s5 8 (v3 + (1 : Int32)) x1 (q_X12_notes__6 x2 x3 v3)
def q_X12_notes__4 (x1 : Int32) (x2 : Int32) (x3 : Int32) (σ : wg_M) (v3 : Int32) (v4 : Int32) : Option (Int32 × wg_M) := wg_sa 600 σ 8 v3 v4 (q_X12_notes__5 x1 x2 x3 v3)
def q_X12_notes__3 (x1 : Int32) (x2 : Int32) (x3 : Int32) (σ : wg_M) (v3 : Int32) : Option (Int32 × wg_M) := wg_ga 295 (σ 1) (0 : Int32) (q_X12_notes__4 x1 x2 x3 σ v3)
def q_X12_notes__2 (x1 : Int32) (x2 : Int32) (x3 : Int32) (σ : wg_M) (v2 : Int32) : Option (Int32 × wg_M) := wg_let ((4 : Int32) * v2) (q_X12_notes__3 x1 x2 x3 σ)
def q_X12_notes__1 (x1 : Int32) (x2 : Int32) (x3 : Int32) (σ : wg_M) (v1 : Int32) : Option (Int32 × wg_M) := if v1 = (150 : Int32) then (some (0, σ)) else (wg_ga 295 (σ 1) (2 : Int32) (q_X12_notes__2 x1 x2 x3 σ))
theorem e_X12_notes__1 (x1 : Int32) (x2 : Int32) (x3 : Int32) (σ : wg_M) (v1 : Int32) : q_X12_notes__1 x1 x2 x3 σ v1 = if v1 = (150 : Int32) then (some (0, σ)) else (wg_ga 295 (σ 1) (2 : Int32) (q_X12_notes__2 x1 x2 x3 σ)) := rfl
theorem e_X12_notes__2 (x1 : Int32) (x2 : Int32) (x3 : Int32) (σ : wg_M) (v2 : Int32) : q_X12_notes__2 x1 x2 x3 σ v2 = wg_let ((4 : Int32) * v2) (q_X12_notes__3 x1 x2 x3 σ) := rfl
theorem e_X12_notes__3 (x1 : Int32) (x2 : Int32) (x3 : Int32) (σ : wg_M) (v3 : Int32) : q_X12_notes__3 x1 x2 x3 σ v3 = wg_ga 295 (σ 1) (0 : Int32) (q_X12_notes__4 x1 x2 x3 σ v3) := rfl
theorem e_X12_notes__4 (x1 : Int32) (x2 : Int32) (x3 : Int32) (σ : wg_M) (v3 : Int32) (v4 : Int32) : q_X12_notes__4 x1 x2 x3 σ v3 v4 = wg_sa 600 σ 8 v3 v4 (q_X12_notes__5 x1 x2 x3 v3) := rfl
theorem e_X12_notes__5 (x1 : Int32) (x2 : Int32) (x3 : Int32) (v3 : Int32) (s5 : wg_M) : q_X12_notes__5 x1 x2 x3 v3 s5 = wg_sa 600 s5 8 (v3 + (1 : Int32)) x1 (q_X12_notes__6 x2 x3 v3) := rfl
theorem e_X12_notes__6 (x2 : Int32) (x3 : Int32) (v3 : Int32) (s6 : wg_M) : q_X12_notes__6 x2 x3 v3 s6 = wg_sa 600 s6 8 (v3 + (2 : Int32)) x2 (q_X12_notes__7 x3 v3) := rfl
theorem e_X12_notes__7 (x3 : Int32) (v3 : Int32) (s7 : wg_M) : q_X12_notes__7 x3 v3 s7 = wg_sa 600 s7 8 (v3 + (3 : Int32)) x3 q_X12_notes__8 := rfl
theorem e_X12_notes__8 (s8 : wg_M) : q_X12_notes__8 s8 = wg_ga 295 (s8 1) (2 : Int32) (q_X12_notes__9 s8) := rfl
theorem e_X12_notes__9 (s8 : wg_M) (v9 : Int32) : q_X12_notes__9 s8 v9 = wg_sa 295 s8 1 (2 : Int32) (v9 + (1 : Int32)) q_X12_notes__10 := rfl
theorem e_X12_notes__10 (s10 : wg_M) : q_X12_notes__10 s10 = some (0, s10) := rfl
theorem e_X12_notes (x1 : Int32) (x2 : Int32) (x3 : Int32) (σ : wg_M) : f_X12_notes 0 x1 x2 x3 σ = if (σ 0 5) = 0 then (wg_ga 295 (σ 1) (2 : Int32) (q_X12_notes__1 x1 x2 x3 σ)) else (some (0, σ)) := by
  unfold f_X12_notes
  simp only [sm_n1, sm_n8, sm_r0_1, sm_r0_13]
  rfl
def q_X12_verdictOf_109__1 (v1 : Int32) (s2 : wg_M) : Option (Int32 × wg_M) := some (v1, s2)
theorem e_X12_verdictOf_109__1 (v1 : Int32) (s2 : wg_M) : q_X12_verdictOf_109__1 v1 s2 = some (v1, s2) := rfl
theorem e_X12_verdictOf_109 (x3 : Int32) (σ : wg_M) : f_X12_verdictOf_109 0 x3 σ = wg_bd (f_X12_held 0 x3 (-999 : Int32) (999 : Int32) σ) q_X12_verdictOf_109__1 := rfl
def q_X12_verdictOf_103__1 (k26 : Nat → Int32 → Int32 → Int32 → Int32 → Int32 → wg_M → Option (Int32 × wg_M)) (x1 : Int32) (x2 : Int32) (x3 : Int32) (x4 : Int32) (σ : wg_M) (v1 : Int32) : Option (Int32 × wg_M) := k26 0 x1 x2 x3 x4 v1 σ
theorem e_X12_verdictOf_103__1 (k26 : Nat → Int32 → Int32 → Int32 → Int32 → Int32 → wg_M → Option (Int32 × wg_M)) (x1 : Int32) (x2 : Int32) (x3 : Int32) (x4 : Int32) (σ : wg_M) (v1 : Int32) : q_X12_verdictOf_103__1 k26 x1 x2 x3 x4 σ v1 = k26 0 x1 x2 x3 x4 v1 σ := rfl
theorem e_X12_verdictOf_103 (k26 : Nat → Int32 → Int32 → Int32 → Int32 → Int32 → wg_M → Option (Int32 × wg_M)) (x1 : Int32) (x2 : Int32) (x3 : Int32) (x4 : Int32) (x5 : Int32) (σ : wg_M) : f_X12_verdictOf_103 k26 0 x1 x2 x3 x4 x5 σ = wg_let (x5 + (1 : Int32)) (q_X12_verdictOf_103__1 k26 x1 x2 x3 x4 σ) := rfl
def q_X12_verdictOf_26__9 (n : Nat) (x1 : Int32) (x2 : Int32) (x4 : Int32) (x5 : Int32) (s12 : wg_M) (v13 : Int32) : Option (Int32 × wg_M) := f_X12_verdictOf_103 (f_X12_verdictOf_26  n) 0 x1 x2 v13 x4 x5 s12
def q_X12_verdictOf_26__8 (n : Nat) (x1 : Int32) (x2 : Int32) (x3 : Int32) (x4 : Int32) (x5 : Int32) (v11 : Int32) (s12 : wg_M) : Option (Int32 × wg_M) := wg_let (x3 + v11) (q_X12_verdictOf_26__9 n x1 x2 x4 x5 s12)
def q_X12_verdictOf_26__7 (n : Nat) (x1 : Int32) (x2 : Int32) (x3 : Int32) (x4 : Int32) (x5 : Int32) (v8 : Int32) (v9 : Int32) (s10 : wg_M) : Option (Int32 × wg_M) := wg_bd (f_X12_partOf 0 (v8 * v9) (9 : Int32) s10) (q_X12_verdictOf_26__8 n x1 x2 x3 x4 x5)
def q_X12_verdictOf_26__6 (n : Nat) (x1 : Int32) (x2 : Int32) (x3 : Int32) (x4 : Int32) (x5 : Int32) (s7 : wg_M) (v8 : Int32) : Option (Int32 × wg_M) := wg_bd (f_X12_countsOf 0 x4 x5 x2 s7) (q_X12_verdictOf_26__7 n x1 x2 x3 x4 x5 v8)
def q_X12_verdictOf_26__5 (n : Nat) (x1 : Int32) (x2 : Int32) (x3 : Int32) (x4 : Int32) (x5 : Int32) (v6 : Int32) (s7 : wg_M) : Option (Int32 × wg_M) := wg_ga 295 (s7 1) (v6 + (1 : Int32)) (q_X12_verdictOf_26__6 n x1 x2 x3 x4 x5 s7)
def q_X12_verdictOf_26__4 (n : Nat) (x1 : Int32) (x2 : Int32) (x3 : Int32) (x4 : Int32) (x5 : Int32) (s3 : wg_M) (v4 : Int32) (v5 : Int32) : Option (Int32 × wg_M) := if v4 = v5 then (wg_bd (f_X12_ruleAt 0 x4 x5 s3) (q_X12_verdictOf_26__5 n x1 x2 x3 x4 x5)) else (f_X12_verdictOf_103 (f_X12_verdictOf_26  n) 0 x1 x2 x3 x4 x5 s3)
def q_X12_verdictOf_26__3 (n : Nat) (x1 : Int32) (x2 : Int32) (x3 : Int32) (x4 : Int32) (x5 : Int32) (s3 : wg_M) (v4 : Int32) : Option (Int32 × wg_M) := wg_ga 14 (s3 6) x1 (q_X12_verdictOf_26__4 n x1 x2 x3 x4 x5 s3 v4)
def q_X12_verdictOf_26__2 (n : Nat) (x1 : Int32) (x2 : Int32) (x3 : Int32) (x4 : Int32) (x5 : Int32) (v2 : Int32) (s3 : wg_M) : Option (Int32 × wg_M) := wg_ga 295 (s3 1) v2 (q_X12_verdictOf_26__3 n x1 x2 x3 x4 x5 s3)
def q_X12_verdictOf_26__1 (n : Nat) (x1 : Int32) (x2 : Int32) (x3 : Int32) (x4 : Int32) (x5 : Int32) (σ : wg_M) (v1 : Int32) : Option (Int32 × wg_M) := if v1 ≤ x5 then (f_X12_verdictOf_109  0 x3 σ) else (wg_bd (f_X12_ruleAt 0 x4 x5 σ) (q_X12_verdictOf_26__2 n x1 x2 x3 x4 x5))
theorem e_X12_verdictOf_26__1 (n : Nat) (x1 : Int32) (x2 : Int32) (x3 : Int32) (x4 : Int32) (x5 : Int32) (σ : wg_M) (v1 : Int32) : q_X12_verdictOf_26__1 n x1 x2 x3 x4 x5 σ v1 = if v1 ≤ x5 then (f_X12_verdictOf_109  0 x3 σ) else (wg_bd (f_X12_ruleAt 0 x4 x5 σ) (q_X12_verdictOf_26__2 n x1 x2 x3 x4 x5)) := rfl
theorem e_X12_verdictOf_26__2 (n : Nat) (x1 : Int32) (x2 : Int32) (x3 : Int32) (x4 : Int32) (x5 : Int32) (v2 : Int32) (s3 : wg_M) : q_X12_verdictOf_26__2 n x1 x2 x3 x4 x5 v2 s3 = wg_ga 295 (s3 1) v2 (q_X12_verdictOf_26__3 n x1 x2 x3 x4 x5 s3) := rfl
theorem e_X12_verdictOf_26__3 (n : Nat) (x1 : Int32) (x2 : Int32) (x3 : Int32) (x4 : Int32) (x5 : Int32) (s3 : wg_M) (v4 : Int32) : q_X12_verdictOf_26__3 n x1 x2 x3 x4 x5 s3 v4 = wg_ga 14 (s3 6) x1 (q_X12_verdictOf_26__4 n x1 x2 x3 x4 x5 s3 v4) := rfl
theorem e_X12_verdictOf_26__4 (n : Nat) (x1 : Int32) (x2 : Int32) (x3 : Int32) (x4 : Int32) (x5 : Int32) (s3 : wg_M) (v4 : Int32) (v5 : Int32) : q_X12_verdictOf_26__4 n x1 x2 x3 x4 x5 s3 v4 v5 = if v4 = v5 then (wg_bd (f_X12_ruleAt 0 x4 x5 s3) (q_X12_verdictOf_26__5 n x1 x2 x3 x4 x5)) else (f_X12_verdictOf_103 (f_X12_verdictOf_26  n) 0 x1 x2 x3 x4 x5 s3) := rfl
theorem e_X12_verdictOf_26__5 (n : Nat) (x1 : Int32) (x2 : Int32) (x3 : Int32) (x4 : Int32) (x5 : Int32) (v6 : Int32) (s7 : wg_M) : q_X12_verdictOf_26__5 n x1 x2 x3 x4 x5 v6 s7 = wg_ga 295 (s7 1) (v6 + (1 : Int32)) (q_X12_verdictOf_26__6 n x1 x2 x3 x4 x5 s7) := rfl
theorem e_X12_verdictOf_26__6 (n : Nat) (x1 : Int32) (x2 : Int32) (x3 : Int32) (x4 : Int32) (x5 : Int32) (s7 : wg_M) (v8 : Int32) : q_X12_verdictOf_26__6 n x1 x2 x3 x4 x5 s7 v8 = wg_bd (f_X12_countsOf 0 x4 x5 x2 s7) (q_X12_verdictOf_26__7 n x1 x2 x3 x4 x5 v8) := rfl
theorem e_X12_verdictOf_26__7 (n : Nat) (x1 : Int32) (x2 : Int32) (x3 : Int32) (x4 : Int32) (x5 : Int32) (v8 : Int32) (v9 : Int32) (s10 : wg_M) : q_X12_verdictOf_26__7 n x1 x2 x3 x4 x5 v8 v9 s10 = wg_bd (f_X12_partOf 0 (v8 * v9) (9 : Int32) s10) (q_X12_verdictOf_26__8 n x1 x2 x3 x4 x5) := rfl
theorem e_X12_verdictOf_26__8 (n : Nat) (x1 : Int32) (x2 : Int32) (x3 : Int32) (x4 : Int32) (x5 : Int32) (v11 : Int32) (s12 : wg_M) : q_X12_verdictOf_26__8 n x1 x2 x3 x4 x5 v11 s12 = wg_let (x3 + v11) (q_X12_verdictOf_26__9 n x1 x2 x4 x5 s12) := rfl
theorem e_X12_verdictOf_26__9 (n : Nat) (x1 : Int32) (x2 : Int32) (x4 : Int32) (x5 : Int32) (s12 : wg_M) (v13 : Int32) : q_X12_verdictOf_26__9 n x1 x2 x4 x5 s12 v13 = f_X12_verdictOf_103 (f_X12_verdictOf_26  n) 0 x1 x2 v13 x4 x5 s12 := rfl
theorem e_X12_verdictOf_26 (n : Nat) (x1 : Int32) (x2 : Int32) (x3 : Int32) (x4 : Int32) (x5 : Int32) (σ : wg_M) : f_X12_verdictOf_26 (n + 1) 0 x1 x2 x3 x4 x5 σ = if x4 = (-1 : Int32) then (f_X12_verdictOf_109  0 x3 σ) else (wg_ga 295 (σ 1) ((67 : Int32) + x4) (q_X12_verdictOf_26__1 n x1 x2 x3 x4 x5 σ)) := by
  rw [f_X12_verdictOf_26]
  simp only [sm_n1, sm_n6, sm_r0_1, sm_r0_11]
  rfl
def q_X12_verdictOf__4 (x1 : Int32) (x2 : Int32) (v3 : Int32) (v4 : Int32) (s5 : wg_M) : Option (Int32 × wg_M) := f_X12_verdictOf_26  wg_N 0 x1 x2 v3 v4 (0 : Int32) s5
def q_X12_verdictOf__3 (x1 : Int32) (x2 : Int32) (σ : wg_M) (v3 : Int32) : Option (Int32 × wg_M) := wg_bd (f_X12_wigOf 0 x2 σ) (q_X12_verdictOf__4 x1 x2 v3)
def q_X12_verdictOf__2 (x1 : Int32) (x2 : Int32) (σ : wg_M) (v1 : Int32) (v2 : Int32) : Option (Int32 × wg_M) := wg_let (v1 + ((3 : Int32) * v2)) (q_X12_verdictOf__3 x1 x2 σ)
def q_X12_verdictOf__1 (x1 : Int32) (x2 : Int32) (σ : wg_M) (v1 : Int32) : Option (Int32 × wg_M) := wg_ga 10 (σ 5) x2 (q_X12_verdictOf__2 x1 x2 σ v1)
theorem e_X12_verdictOf__1 (x1 : Int32) (x2 : Int32) (σ : wg_M) (v1 : Int32) : q_X12_verdictOf__1 x1 x2 σ v1 = wg_ga 10 (σ 5) x2 (q_X12_verdictOf__2 x1 x2 σ v1) := rfl
theorem e_X12_verdictOf__2 (x1 : Int32) (x2 : Int32) (σ : wg_M) (v1 : Int32) (v2 : Int32) : q_X12_verdictOf__2 x1 x2 σ v1 v2 = wg_let (v1 + ((3 : Int32) * v2)) (q_X12_verdictOf__3 x1 x2 σ) := rfl
theorem e_X12_verdictOf__3 (x1 : Int32) (x2 : Int32) (σ : wg_M) (v3 : Int32) : q_X12_verdictOf__3 x1 x2 σ v3 = wg_bd (f_X12_wigOf 0 x2 σ) (q_X12_verdictOf__4 x1 x2 v3) := rfl
theorem e_X12_verdictOf__4 (x1 : Int32) (x2 : Int32) (v3 : Int32) (v4 : Int32) (s5 : wg_M) : q_X12_verdictOf__4 x1 x2 v3 v4 s5 = f_X12_verdictOf_26  wg_N 0 x1 x2 v3 v4 (0 : Int32) s5 := rfl
theorem e_X12_verdictOf (x1 : Int32) (x2 : Int32) (σ : wg_M) : f_X12_verdictOf 0 x1 x2 σ = wg_ga 14 (σ 7) x1 (q_X12_verdictOf__1 x1 x2 σ) := by
  unfold f_X12_verdictOf
  simp only [sm_n5, sm_n7, sm_r0_10, sm_r0_12]
  rfl
def q_X12_lightest_41__1 (k4 : Nat → Int32 → Int32 → Int32 → wg_M → Option (Int32 × wg_M)) (x1 : Int32) (x2 : Int32) (σ : wg_M) (v1 : Int32) : Option (Int32 × wg_M) := k4 0 x1 x2 v1 σ
theorem e_X12_lightest_41__1 (k4 : Nat → Int32 → Int32 → Int32 → wg_M → Option (Int32 × wg_M)) (x1 : Int32) (x2 : Int32) (σ : wg_M) (v1 : Int32) : q_X12_lightest_41__1 k4 x1 x2 σ v1 = k4 0 x1 x2 v1 σ := rfl
theorem e_X12_lightest_41 (k4 : Nat → Int32 → Int32 → Int32 → wg_M → Option (Int32 × wg_M)) (x1 : Int32) (x2 : Int32) (x3 : Int32) (σ : wg_M) : f_X12_lightest_41 k4 0 x1 x2 x3 σ = wg_let (x3 + (1 : Int32)) (q_X12_lightest_41__1 k4 x1 x2 σ) := rfl
def q_X12_lightest_4__4 (n : Nat) (x1 : Int32) (x2 : Int32) (x3 : Int32) (v3 : Int32) (s5 : wg_M) (v6 : Int32) : Option (Int32 × wg_M) := if v6 ≤ v3 then (f_X12_lightest_41 (f_X12_lightest_4  n) 0 x1 x2 x3 s5) else (f_X12_lightest_41 (f_X12_lightest_4  n) 0 x1 x3 x3 s5)
def q_X12_lightest_4__3 (n : Nat) (x1 : Int32) (x2 : Int32) (x3 : Int32) (v3 : Int32) (v4 : Int32) (s5 : wg_M) : Option (Int32 × wg_M) := wg_ga 295 (s5 1) (v4 + (2 : Int32)) (q_X12_lightest_4__4 n x1 x2 x3 v3 s5)
def q_X12_lightest_4__2 (n : Nat) (x1 : Int32) (x2 : Int32) (x3 : Int32) (s2 : wg_M) (v3 : Int32) : Option (Int32 × wg_M) := wg_bd (f_X12_ruleAt 0 x1 x2 s2) (q_X12_lightest_4__3 n x1 x2 x3 v3)
def q_X12_lightest_4__1 (n : Nat) (x1 : Int32) (x2 : Int32) (x3 : Int32) (v1 : Int32) (s2 : wg_M) : Option (Int32 × wg_M) := wg_ga 295 (s2 1) (v1 + (2 : Int32)) (q_X12_lightest_4__2 n x1 x2 x3 s2)
theorem e_X12_lightest_4__1 (n : Nat) (x1 : Int32) (x2 : Int32) (x3 : Int32) (v1 : Int32) (s2 : wg_M) : q_X12_lightest_4__1 n x1 x2 x3 v1 s2 = wg_ga 295 (s2 1) (v1 + (2 : Int32)) (q_X12_lightest_4__2 n x1 x2 x3 s2) := rfl
theorem e_X12_lightest_4__2 (n : Nat) (x1 : Int32) (x2 : Int32) (x3 : Int32) (s2 : wg_M) (v3 : Int32) : q_X12_lightest_4__2 n x1 x2 x3 s2 v3 = wg_bd (f_X12_ruleAt 0 x1 x2 s2) (q_X12_lightest_4__3 n x1 x2 x3 v3) := rfl
theorem e_X12_lightest_4__3 (n : Nat) (x1 : Int32) (x2 : Int32) (x3 : Int32) (v3 : Int32) (v4 : Int32) (s5 : wg_M) : q_X12_lightest_4__3 n x1 x2 x3 v3 v4 s5 = wg_ga 295 (s5 1) (v4 + (2 : Int32)) (q_X12_lightest_4__4 n x1 x2 x3 v3 s5) := rfl
theorem e_X12_lightest_4__4 (n : Nat) (x1 : Int32) (x2 : Int32) (x3 : Int32) (v3 : Int32) (s5 : wg_M) (v6 : Int32) : q_X12_lightest_4__4 n x1 x2 x3 v3 s5 v6 = if v6 ≤ v3 then (f_X12_lightest_41 (f_X12_lightest_4  n) 0 x1 x2 x3 s5) else (f_X12_lightest_41 (f_X12_lightest_4  n) 0 x1 x3 x3 s5) := rfl
theorem e_X12_lightest_4 (n : Nat) (x1 : Int32) (x2 : Int32) (x3 : Int32) (σ : wg_M) : f_X12_lightest_4 (n + 1) 0 x1 x2 x3 σ = if (8 : Int32) ≤ x3 then (some (x2, σ)) else (wg_bd (f_X12_ruleAt 0 x1 x3 σ) (q_X12_lightest_4__1 n x1 x2 x3)) := by
  rw [f_X12_lightest_4]
  simp only [sm_n1, sm_r0_1]
  rfl
theorem e_X12_lightest (x1 : Int32) (σ : wg_M) : f_X12_lightest 0 x1 σ = f_X12_lightest_4  wg_N 0 x1 (0 : Int32) (1 : Int32) σ := rfl
def q_X12_canTry__2 (v2 : Int32) (s3 : wg_M) : Option (Int32 × wg_M) := if v2 = 0 then (some ((0 : Int32), s3)) else (some ((1 : Int32), s3))
def q_X12_canTry__1 (x2 : Int32) (σ : wg_M) (v1 : Int32) : Option (Int32 × wg_M) := if v1 = 0 then (wg_bd (f_X12_isAlive 0 x2 σ) q_X12_canTry__2) else (some ((0 : Int32), σ))
theorem e_X12_canTry__1 (x2 : Int32) (σ : wg_M) (v1 : Int32) : q_X12_canTry__1 x2 σ v1 = if v1 = 0 then (wg_bd (f_X12_isAlive 0 x2 σ) q_X12_canTry__2) else (some ((0 : Int32), σ)) := rfl
theorem e_X12_canTry__2 (v2 : Int32) (s3 : wg_M) : q_X12_canTry__2 v2 s3 = if v2 = 0 then (some ((0 : Int32), s3)) else (some ((1 : Int32), s3)) := rfl
theorem e_X12_canTry (x1 : Int32) (x2 : Int32) (σ : wg_M) : f_X12_canTry 0 x1 x2 σ = wg_ga 295 (σ 1) ((267 : Int32) + x1) (q_X12_canTry__1 x2 σ) := by
  unfold f_X12_canTry
  simp only [sm_n1, sm_r0_1]
  rfl
def q_X12_judgesCase_104__4 (x3 : Int32) (_u4 : Int32) (s6 : wg_M) : Option (Int32 × wg_M) := some (x3, s6)
def q_X12_judgesCase_104__3 (x3 : Int32) (x4 : Int32) (v1 : Int32) (v4 : Int32) (s5 : wg_M) : Option (Int32 × wg_M) := wg_bd (f_X12_comesRule 0 x4 v1 v4 (9 : Int32) s5) (q_X12_judgesCase_104__4 x3)
def q_X12_judgesCase_104__2 (x3 : Int32) (x4 : Int32) (v1 : Int32) (v2 : Int32) (s3 : wg_M) : Option (Int32 × wg_M) := wg_bd (f_X12_held 0 v2 (-9 : Int32) (9 : Int32) s3) (q_X12_judgesCase_104__3 x3 x4 v1)
def q_X12_judgesCase_104__1 (x3 : Int32) (x4 : Int32) (σ : wg_M) (v1 : Int32) : Option (Int32 × wg_M) := wg_bd (f_X12_partOf 0 x3 (20 : Int32) σ) (q_X12_judgesCase_104__2 x3 x4 v1)
theorem e_X12_judgesCase_104__1 (x3 : Int32) (x4 : Int32) (σ : wg_M) (v1 : Int32) : q_X12_judgesCase_104__1 x3 x4 σ v1 = wg_bd (f_X12_partOf 0 x3 (20 : Int32) σ) (q_X12_judgesCase_104__2 x3 x4 v1) := rfl
theorem e_X12_judgesCase_104__2 (x3 : Int32) (x4 : Int32) (v1 : Int32) (v2 : Int32) (s3 : wg_M) : q_X12_judgesCase_104__2 x3 x4 v1 v2 s3 = wg_bd (f_X12_held 0 v2 (-9 : Int32) (9 : Int32) s3) (q_X12_judgesCase_104__3 x3 x4 v1) := rfl
theorem e_X12_judgesCase_104__3 (x3 : Int32) (x4 : Int32) (v1 : Int32) (v4 : Int32) (s5 : wg_M) : q_X12_judgesCase_104__3 x3 x4 v1 v4 s5 = wg_bd (f_X12_comesRule 0 x4 v1 v4 (9 : Int32) s5) (q_X12_judgesCase_104__4 x3) := rfl
theorem e_X12_judgesCase_104__4 (x3 : Int32) (_u4 : Int32) (s6 : wg_M) : q_X12_judgesCase_104__4 x3 _u4 s6 = some (x3, s6) := rfl
theorem e_X12_judgesCase_104 (x1 : Int32) (x3 : Int32) (x4 : Int32) (σ : wg_M) : f_X12_judgesCase_104 0 x1 x3 x4 σ = wg_ga 14 (σ 6) x1 (q_X12_judgesCase_104__1 x3 x4 σ) := by
  unfold f_X12_judgesCase_104
  simp only [sm_n6, sm_r0_11]
  rfl
def q_X12_judgesCase__10 (x1 : Int32) (v1 : Int32) (v3 : Int32) (_u10 : Int32) (s13 : wg_M) : Option (Int32 × wg_M) := f_X12_judgesCase_104  0 x1 v1 v3 s13
def q_X12_judgesCase__9 (x1 : Int32) (v1 : Int32) (v3 : Int32) (v11 : Int32) (s12 : wg_M) : Option (Int32 × wg_M) := wg_bd (f_X12_goesRule 0 v3 v11 s12) (q_X12_judgesCase__10 x1 v1 v3)
def q_X12_judgesCase__8 (x1 : Int32) (v1 : Int32) (v3 : Int32) (s9 : wg_M) (v10 : Int32) : Option (Int32 × wg_M) := if v10 = (8 : Int32) then (wg_bd (f_X12_lightest 0 v3 s9) (q_X12_judgesCase__9 x1 v1 v3)) else (f_X12_judgesCase_104  0 x1 v1 v3 s9)
def q_X12_judgesCase__7 (x1 : Int32) (v1 : Int32) (v3 : Int32) (_u7 : Int32) (s9 : wg_M) : Option (Int32 × wg_M) := if v3 = (-1 : Int32) then (some (v1, s9)) else (wg_ga 295 (s9 1) ((67 : Int32) + v3) (q_X12_judgesCase__8 x1 v1 v3 s9))
def q_X12_judgesCase__6 (x1 : Int32) (v1 : Int32) (v3 : Int32) (s8 : wg_M) : Option (Int32 × wg_M) := wg_bd (f_X12_notes 0 (0 : Int32) x1 v1 s8) (q_X12_judgesCase__7 x1 v1 v3)
def q_X12_judgesCase__5 (x1 : Int32) (x2 : Int32) (v1 : Int32) (v3 : Int32) (s6 : wg_M) (v7 : Int32) : Option (Int32 × wg_M) := wg_sa 295 s6 1 ((33 : Int32) + x2) (v7 + (1 : Int32)) (q_X12_judgesCase__6 x1 v1 v3)
def q_X12_judgesCase__4 (x1 : Int32) (x2 : Int32) (v1 : Int32) (v3 : Int32) (s6 : wg_M) : Option (Int32 × wg_M) := wg_ga 295 (s6 1) ((33 : Int32) + x2) (q_X12_judgesCase__5 x1 x2 v1 v3 s6)
def q_X12_judgesCase__3 (x1 : Int32) (x2 : Int32) (v1 : Int32) (v3 : Int32) (s5 : wg_M) : Option (Int32 × wg_M) := wg_sa 295 s5 1 ((281 : Int32) + x1) (x2 + (1 : Int32)) (q_X12_judgesCase__4 x1 x2 v1 v3)
def q_X12_judgesCase__2 (x1 : Int32) (x2 : Int32) (v1 : Int32) (v3 : Int32) (s4 : wg_M) : Option (Int32 × wg_M) := wg_sa 295 s4 1 ((267 : Int32) + x1) (v1 + (1000 : Int32)) (q_X12_judgesCase__3 x1 x2 v1 v3)
def q_X12_judgesCase__1 (x1 : Int32) (x2 : Int32) (v1 : Int32) (s2 : wg_M) : Option (Int32 × wg_M) := wg_bd (f_X12_wigOf 0 x2 s2) (q_X12_judgesCase__2 x1 x2 v1)
theorem e_X12_judgesCase__1 (x1 : Int32) (x2 : Int32) (v1 : Int32) (s2 : wg_M) : q_X12_judgesCase__1 x1 x2 v1 s2 = wg_bd (f_X12_wigOf 0 x2 s2) (q_X12_judgesCase__2 x1 x2 v1) := rfl
theorem e_X12_judgesCase__2 (x1 : Int32) (x2 : Int32) (v1 : Int32) (v3 : Int32) (s4 : wg_M) : q_X12_judgesCase__2 x1 x2 v1 v3 s4 = wg_sa 295 s4 1 ((267 : Int32) + x1) (v1 + (1000 : Int32)) (q_X12_judgesCase__3 x1 x2 v1 v3) := rfl
theorem e_X12_judgesCase__3 (x1 : Int32) (x2 : Int32) (v1 : Int32) (v3 : Int32) (s5 : wg_M) : q_X12_judgesCase__3 x1 x2 v1 v3 s5 = wg_sa 295 s5 1 ((281 : Int32) + x1) (x2 + (1 : Int32)) (q_X12_judgesCase__4 x1 x2 v1 v3) := rfl
theorem e_X12_judgesCase__4 (x1 : Int32) (x2 : Int32) (v1 : Int32) (v3 : Int32) (s6 : wg_M) : q_X12_judgesCase__4 x1 x2 v1 v3 s6 = wg_ga 295 (s6 1) ((33 : Int32) + x2) (q_X12_judgesCase__5 x1 x2 v1 v3 s6) := rfl
theorem e_X12_judgesCase__5 (x1 : Int32) (x2 : Int32) (v1 : Int32) (v3 : Int32) (s6 : wg_M) (v7 : Int32) : q_X12_judgesCase__5 x1 x2 v1 v3 s6 v7 = wg_sa 295 s6 1 ((33 : Int32) + x2) (v7 + (1 : Int32)) (q_X12_judgesCase__6 x1 v1 v3) := rfl
theorem e_X12_judgesCase__6 (x1 : Int32) (v1 : Int32) (v3 : Int32) (s8 : wg_M) : q_X12_judgesCase__6 x1 v1 v3 s8 = wg_bd (f_X12_notes 0 (0 : Int32) x1 v1 s8) (q_X12_judgesCase__7 x1 v1 v3) := rfl
theorem e_X12_judgesCase__7 (x1 : Int32) (v1 : Int32) (v3 : Int32) (_u7 : Int32) (s9 : wg_M) : q_X12_judgesCase__7 x1 v1 v3 _u7 s9 = if v3 = (-1 : Int32) then (some (v1, s9)) else (wg_ga 295 (s9 1) ((67 : Int32) + v3) (q_X12_judgesCase__8 x1 v1 v3 s9)) := rfl
theorem e_X12_judgesCase__8 (x1 : Int32) (v1 : Int32) (v3 : Int32) (s9 : wg_M) (v10 : Int32) : q_X12_judgesCase__8 x1 v1 v3 s9 v10 = if v10 = (8 : Int32) then (wg_bd (f_X12_lightest 0 v3 s9) (q_X12_judgesCase__9 x1 v1 v3)) else (f_X12_judgesCase_104  0 x1 v1 v3 s9) := rfl
theorem e_X12_judgesCase__9 (x1 : Int32) (v1 : Int32) (v3 : Int32) (v11 : Int32) (s12 : wg_M) : q_X12_judgesCase__9 x1 v1 v3 v11 s12 = wg_bd (f_X12_goesRule 0 v3 v11 s12) (q_X12_judgesCase__10 x1 v1 v3) := rfl
theorem e_X12_judgesCase__10 (x1 : Int32) (v1 : Int32) (v3 : Int32) (_u10 : Int32) (s13 : wg_M) : q_X12_judgesCase__10 x1 v1 v3 _u10 s13 = f_X12_judgesCase_104  0 x1 v1 v3 s13 := rfl
theorem e_X12_judgesCase (x1 : Int32) (x2 : Int32) (σ : wg_M) : f_X12_judgesCase 0 x1 x2 σ = wg_bd (f_X12_verdictOf 0 x1 x2 σ) (q_X12_judgesCase__1 x1 x2) := by
  unfold f_X12_judgesCase
  simp only [sm_n1, sm_r0_1]
  rfl
def q_X12_tries__6 (v9 : Int32) (s10 : wg_M) : Option (Int32 × wg_M) := some (v9, s10)
def q_X12_tries__5 (x1 : Int32) (x2 : Int32) (_u5 : Int32) (s8 : wg_M) : Option (Int32 × wg_M) := wg_bd (f_X12_judgesCase 0 x1 x2 s8) q_X12_tries__6
def q_X12_tries__4 (x1 : Int32) (x2 : Int32) (v6 : Int32) (s7 : wg_M) : Option (Int32 × wg_M) := if v6 = 0 then (some ((-10000 : Int32), s7)) else (wg_bd (f_X12_keepsAhead 0 s7) (q_X12_tries__5 x1 x2))
def q_X12_tries__3 (x1 : Int32) (x2 : Int32) (v4 : Int32) (s5 : wg_M) : Option (Int32 × wg_M) := if v4 = 0 then (some ((-10000 : Int32), s5)) else (wg_bd (f_X12_canTry 0 x1 x2 s5) (q_X12_tries__4 x1 x2))
def q_X12_tries__2 (x1 : Int32) (x2 : Int32) (v2 : Int32) (s3 : wg_M) : Option (Int32 × wg_M) := if v2 = 0 then (some ((-10000 : Int32), s3)) else (wg_bd (f_X12_isJudge 0 x2 s3) (q_X12_tries__3 x1 x2))
def q_X12_tries__1 (x1 : Int32) (x2 : Int32) (s1 : wg_M) : Option (Int32 × wg_M) := wg_bd (f_X12_isTrial 0 x1 s1) (q_X12_tries__2 x1 x2)
theorem e_X12_tries__1 (x1 : Int32) (x2 : Int32) (s1 : wg_M) : q_X12_tries__1 x1 x2 s1 = wg_bd (f_X12_isTrial 0 x1 s1) (q_X12_tries__2 x1 x2) := rfl
theorem e_X12_tries__2 (x1 : Int32) (x2 : Int32) (v2 : Int32) (s3 : wg_M) : q_X12_tries__2 x1 x2 v2 s3 = if v2 = 0 then (some ((-10000 : Int32), s3)) else (wg_bd (f_X12_isJudge 0 x2 s3) (q_X12_tries__3 x1 x2)) := rfl
theorem e_X12_tries__3 (x1 : Int32) (x2 : Int32) (v4 : Int32) (s5 : wg_M) : q_X12_tries__3 x1 x2 v4 s5 = if v4 = 0 then (some ((-10000 : Int32), s5)) else (wg_bd (f_X12_canTry 0 x1 x2 s5) (q_X12_tries__4 x1 x2)) := rfl
theorem e_X12_tries__4 (x1 : Int32) (x2 : Int32) (v6 : Int32) (s7 : wg_M) : q_X12_tries__4 x1 x2 v6 s7 = if v6 = 0 then (some ((-10000 : Int32), s7)) else (wg_bd (f_X12_keepsAhead 0 s7) (q_X12_tries__5 x1 x2)) := rfl
theorem e_X12_tries__5 (x1 : Int32) (x2 : Int32) (_u5 : Int32) (s8 : wg_M) : q_X12_tries__5 x1 x2 _u5 s8 = wg_bd (f_X12_judgesCase 0 x1 x2 s8) q_X12_tries__6 := rfl
theorem e_X12_tries__6 (v9 : Int32) (s10 : wg_M) : q_X12_tries__6 v9 s10 = some (v9, s10) := rfl
theorem e_X12_tries (x1 : Int32) (x2 : Int32) (σ : wg_M) : f_X12_tries 0 x1 x2 σ = wg_st σ 0 0 (0 : Int32) (q_X12_tries__1 x1 x2) := rfl
def q_X12_rulesFor_39__1 (k5 : Nat → Int32 → Int32 → Int32 → Int32 → wg_M → Option (Int32 × wg_M)) (x1 : Int32) (x2 : Int32) (x3 : Int32) (σ : wg_M) (v1 : Int32) : Option (Int32 × wg_M) := k5 0 x1 x2 x3 v1 σ
theorem e_X12_rulesFor_39__1 (k5 : Nat → Int32 → Int32 → Int32 → Int32 → wg_M → Option (Int32 × wg_M)) (x1 : Int32) (x2 : Int32) (x3 : Int32) (σ : wg_M) (v1 : Int32) : q_X12_rulesFor_39__1 k5 x1 x2 x3 σ v1 = k5 0 x1 x2 x3 v1 σ := rfl
theorem e_X12_rulesFor_39 (k5 : Nat → Int32 → Int32 → Int32 → Int32 → wg_M → Option (Int32 × wg_M)) (x1 : Int32) (x2 : Int32) (x3 : Int32) (x4 : Int32) (σ : wg_M) : f_X12_rulesFor_39 k5 0 x1 x2 x3 x4 σ = wg_let (x4 + (1 : Int32)) (q_X12_rulesFor_39__1 k5 x1 x2 x3 σ) := rfl
def q_X12_rulesFor_5__4 (n : Nat) (x1 : Int32) (x2 : Int32) (x4 : Int32) (s3 : wg_M) (v5 : Int32) : Option (Int32 × wg_M) := f_X12_rulesFor_39 (f_X12_rulesFor_5  n) 0 x1 x2 v5 x4 s3
def q_X12_rulesFor_5__3 (n : Nat) (x1 : Int32) (x2 : Int32) (x3 : Int32) (x4 : Int32) (s3 : wg_M) (v4 : Int32) : Option (Int32 × wg_M) := if v4 = x2 then (wg_let (x3 + (1 : Int32)) (q_X12_rulesFor_5__4 n x1 x2 x4 s3)) else (f_X12_rulesFor_39 (f_X12_rulesFor_5  n) 0 x1 x2 x3 x4 s3)
def q_X12_rulesFor_5__2 (n : Nat) (x1 : Int32) (x2 : Int32) (x3 : Int32) (x4 : Int32) (v2 : Int32) (s3 : wg_M) : Option (Int32 × wg_M) := wg_ga 295 (s3 1) v2 (q_X12_rulesFor_5__3 n x1 x2 x3 x4 s3)
def q_X12_rulesFor_5__1 (n : Nat) (x1 : Int32) (x2 : Int32) (x3 : Int32) (x4 : Int32) (σ : wg_M) (v1 : Int32) : Option (Int32 × wg_M) := if v1 ≤ x4 then (some (x3, σ)) else (wg_bd (f_X12_ruleAt 0 x1 x4 σ) (q_X12_rulesFor_5__2 n x1 x2 x3 x4))
theorem e_X12_rulesFor_5__1 (n : Nat) (x1 : Int32) (x2 : Int32) (x3 : Int32) (x4 : Int32) (σ : wg_M) (v1 : Int32) : q_X12_rulesFor_5__1 n x1 x2 x3 x4 σ v1 = if v1 ≤ x4 then (some (x3, σ)) else (wg_bd (f_X12_ruleAt 0 x1 x4 σ) (q_X12_rulesFor_5__2 n x1 x2 x3 x4)) := rfl
theorem e_X12_rulesFor_5__2 (n : Nat) (x1 : Int32) (x2 : Int32) (x3 : Int32) (x4 : Int32) (v2 : Int32) (s3 : wg_M) : q_X12_rulesFor_5__2 n x1 x2 x3 x4 v2 s3 = wg_ga 295 (s3 1) v2 (q_X12_rulesFor_5__3 n x1 x2 x3 x4 s3) := rfl
theorem e_X12_rulesFor_5__3 (n : Nat) (x1 : Int32) (x2 : Int32) (x3 : Int32) (x4 : Int32) (s3 : wg_M) (v4 : Int32) : q_X12_rulesFor_5__3 n x1 x2 x3 x4 s3 v4 = if v4 = x2 then (wg_let (x3 + (1 : Int32)) (q_X12_rulesFor_5__4 n x1 x2 x4 s3)) else (f_X12_rulesFor_39 (f_X12_rulesFor_5  n) 0 x1 x2 x3 x4 s3) := rfl
theorem e_X12_rulesFor_5__4 (n : Nat) (x1 : Int32) (x2 : Int32) (x4 : Int32) (s3 : wg_M) (v5 : Int32) : q_X12_rulesFor_5__4 n x1 x2 x4 s3 v5 = f_X12_rulesFor_39 (f_X12_rulesFor_5  n) 0 x1 x2 v5 x4 s3 := rfl
theorem e_X12_rulesFor_5 (n : Nat) (x1 : Int32) (x2 : Int32) (x3 : Int32) (x4 : Int32) (σ : wg_M) : f_X12_rulesFor_5 (n + 1) 0 x1 x2 x3 x4 σ = wg_ga 295 (σ 1) ((67 : Int32) + x1) (q_X12_rulesFor_5__1 n x1 x2 x3 x4 σ) := by
  rw [f_X12_rulesFor_5]
  simp only [sm_n1, sm_r0_1]
  rfl
theorem e_X12_rulesFor (x1 : Int32) (x2 : Int32) (σ : wg_M) : f_X12_rulesFor 0 x1 x2 σ = f_X12_rulesFor_5  wg_N 0 x1 x2 (0 : Int32) (0 : Int32) σ := rfl
theorem e_X12_canAct_61 (σ : wg_M) : f_X12_canAct_61 σ = some ((1 : Int32), σ) := rfl
def q_X12_canAct__4 (v1 : Int32) (s2 : wg_M) : Option (Int32 × wg_M) := if v1 ≤ 0 then (some ((0 : Int32), s2)) else (f_X12_canAct_61   s2)
def q_X12_canAct__3 (v3 : Int32) (s4 : wg_M) : Option (Int32 × wg_M) := if v3 = (-1 : Int32) then (some ((0 : Int32), s4)) else (some ((1 : Int32), s4))
def q_X12_canAct__2 (v7 : Int32) (s8 : wg_M) : Option (Int32 × wg_M) := if v7 = (-1 : Int32) then (some ((1 : Int32), s8)) else (some ((0 : Int32), s8))
def q_X12_canAct__1 (x3 : Int32) (v5 : Int32) (s6 : wg_M) : Option (Int32 × wg_M) := if v5 = 0 then (some ((0 : Int32), s6)) else (wg_bd (f_X12_wigOf 0 x3 s6) q_X12_canAct__2)
theorem e_X12_canAct__1 (x3 : Int32) (v5 : Int32) (s6 : wg_M) : q_X12_canAct__1 x3 v5 s6 = if v5 = 0 then (some ((0 : Int32), s6)) else (wg_bd (f_X12_wigOf 0 x3 s6) q_X12_canAct__2) := rfl
theorem e_X12_canAct__2 (v7 : Int32) (s8 : wg_M) : q_X12_canAct__2 v7 s8 = if v7 = (-1 : Int32) then (some ((1 : Int32), s8)) else (some ((0 : Int32), s8)) := rfl
theorem e_X12_canAct__3 (v3 : Int32) (s4 : wg_M) : q_X12_canAct__3 v3 s4 = if v3 = (-1 : Int32) then (some ((0 : Int32), s4)) else (some ((1 : Int32), s4)) := rfl
theorem e_X12_canAct__4 (v1 : Int32) (s2 : wg_M) : q_X12_canAct__4 v1 s2 = if v1 ≤ 0 then (some ((0 : Int32), s2)) else (f_X12_canAct_61   s2) := rfl
theorem e_X12_canAct (x1 : Int32) (x2 : Int32) (x3 : Int32) (σ : wg_M) : f_X12_canAct 0 x1 x2 x3 σ = if x1 = 0 then (wg_bd (f_X12_isAlive 0 x3 σ) (q_X12_canAct__1 x3)) else (if x1 = (1 : Int32) then (wg_bd (f_X12_wearerOf 0 x2 σ) q_X12_canAct__3) else (if x1 = (2 : Int32) then (wg_bd (f_X12_rulesFor 0 x2 x3 σ) q_X12_canAct__4) else (f_X12_canAct_61   σ))) := rfl
def q_X12_isOn_21__4 (_u4 : Int32) (s4 : wg_M) : Option (Int32 × wg_M) := some (0, s4)
def q_X12_isOn_21__3 (x1 : Int32) (x2 : Int32) (s3 : wg_M) : Option (Int32 × wg_M) := wg_bd (f_X12_notes 0 (1 : Int32) x1 x2 s3) q_X12_isOn_21__4
def q_X12_isOn_21__2 (x1 : Int32) (x2 : Int32) (s1 : wg_M) (v2 : Int32) : Option (Int32 × wg_M) := wg_sa 295 s1 1 ((59 : Int32) + x1) (v2 + (1 : Int32)) (q_X12_isOn_21__3 x1 x2)
def q_X12_isOn_21__1 (x1 : Int32) (x2 : Int32) (s1 : wg_M) : Option (Int32 × wg_M) := wg_ga 295 (s1 1) ((59 : Int32) + x1) (q_X12_isOn_21__2 x1 x2 s1)
theorem e_X12_isOn_21__1 (x1 : Int32) (x2 : Int32) (s1 : wg_M) : q_X12_isOn_21__1 x1 x2 s1 = wg_ga 295 (s1 1) ((59 : Int32) + x1) (q_X12_isOn_21__2 x1 x2 s1) := rfl
theorem e_X12_isOn_21__2 (x1 : Int32) (x2 : Int32) (s1 : wg_M) (v2 : Int32) : q_X12_isOn_21__2 x1 x2 s1 v2 = wg_sa 295 s1 1 ((59 : Int32) + x1) (v2 + (1 : Int32)) (q_X12_isOn_21__3 x1 x2) := rfl
theorem e_X12_isOn_21__3 (x1 : Int32) (x2 : Int32) (s3 : wg_M) : q_X12_isOn_21__3 x1 x2 s3 = wg_bd (f_X12_notes 0 (1 : Int32) x1 x2 s3) q_X12_isOn_21__4 := rfl
theorem e_X12_isOn_21__4 (_u4 : Int32) (s4 : wg_M) : q_X12_isOn_21__4 _u4 s4 = some (0, s4) := rfl
theorem e_X12_isOn_21 (x1 : Int32) (x2 : Int32) (σ : wg_M) : f_X12_isOn_21 0 x1 x2 σ = wg_sa 295 σ 1 ((13 : Int32) + x2) (x1 + (1 : Int32)) (q_X12_isOn_21__1 x1 x2) := by
  unfold f_X12_isOn_21
  simp only [sm_n1, sm_r0_1]
  rfl
def q_X12_isOn__2 (x1 : Int32) (x2 : Int32) (s3 : wg_M) : Option (Int32 × wg_M) := f_X12_isOn_21  0 x1 x2 s3
def q_X12_isOn__1 (x1 : Int32) (x2 : Int32) (v1 : Int32) (s2 : wg_M) : Option (Int32 × wg_M) := if v1 = (-1 : Int32) then (f_X12_isOn_21  0 x1 x2 s2) else (wg_sa 295 s2 1 ((13 : Int32) + v1) (0 : Int32) (q_X12_isOn__2 x1 x2))
theorem e_X12_isOn__1 (x1 : Int32) (x2 : Int32) (v1 : Int32) (s2 : wg_M) : q_X12_isOn__1 x1 x2 v1 s2 = if v1 = (-1 : Int32) then (f_X12_isOn_21  0 x1 x2 s2) else (wg_sa 295 s2 1 ((13 : Int32) + v1) (0 : Int32) (q_X12_isOn__2 x1 x2)) := rfl
theorem e_X12_isOn__2 (x1 : Int32) (x2 : Int32) (s3 : wg_M) : q_X12_isOn__2 x1 x2 s3 = f_X12_isOn_21  0 x1 x2 s3 := rfl
theorem e_X12_isOn (x1 : Int32) (x2 : Int32) (σ : wg_M) : f_X12_isOn 0 x1 x2 σ = wg_bd (f_X12_wearerOf 0 x1 σ) (q_X12_isOn__1 x1 x2) := by
  unfold f_X12_isOn
  simp only [sm_n1, sm_r0_1]
  rfl
def q_X12_combsOut_49__1 (k24 : Nat → Int32 → Int32 → Int32 → wg_M → Option (Int32 × wg_M)) (x1 : Int32) (x2 : Int32) (σ : wg_M) (v1 : Int32) : Option (Int32 × wg_M) := k24 0 x1 x2 v1 σ
theorem e_X12_combsOut_49__1 (k24 : Nat → Int32 → Int32 → Int32 → wg_M → Option (Int32 × wg_M)) (x1 : Int32) (x2 : Int32) (σ : wg_M) (v1 : Int32) : q_X12_combsOut_49__1 k24 x1 x2 σ v1 = k24 0 x1 x2 v1 σ := rfl
theorem e_X12_combsOut_49 (k24 : Nat → Int32 → Int32 → Int32 → wg_M → Option (Int32 × wg_M)) (x1 : Int32) (x2 : Int32) (x3 : Int32) (σ : wg_M) : f_X12_combsOut_49 k24 0 x1 x2 x3 σ = wg_let (x3 + (-1 : Int32)) (q_X12_combsOut_49__1 k24 x1 x2 σ) := rfl
def q_X12_combsOut_24__4 (n : Nat) (x1 : Int32) (x2 : Int32) (x3 : Int32) (_u4 : Int32) (s5 : wg_M) : Option (Int32 × wg_M) := f_X12_combsOut_49 (f_X12_combsOut_24  n) 0 x1 x2 x3 s5
def q_X12_combsOut_24__3 (n : Nat) (x1 : Int32) (x2 : Int32) (x3 : Int32) (s3 : wg_M) (v4 : Int32) : Option (Int32 × wg_M) := if v4 = x2 then (wg_bd (f_X12_goesRule 0 x1 x3 s3) (q_X12_combsOut_24__4 n x1 x2 x3)) else (f_X12_combsOut_49 (f_X12_combsOut_24  n) 0 x1 x2 x3 s3)
def q_X12_combsOut_24__2 (n : Nat) (x1 : Int32) (x2 : Int32) (x3 : Int32) (v2 : Int32) (s3 : wg_M) : Option (Int32 × wg_M) := wg_ga 295 (s3 1) v2 (q_X12_combsOut_24__3 n x1 x2 x3 s3)
def q_X12_combsOut_24__1 (_u1 : Int32) (s1 : wg_M) : Option (Int32 × wg_M) := some (0, s1)
theorem e_X12_combsOut_24__1 (_u1 : Int32) (s1 : wg_M) : q_X12_combsOut_24__1 _u1 s1 = some (0, s1) := rfl
theorem e_X12_combsOut_24__2 (n : Nat) (x1 : Int32) (x2 : Int32) (x3 : Int32) (v2 : Int32) (s3 : wg_M) : q_X12_combsOut_24__2 n x1 x2 x3 v2 s3 = wg_ga 295 (s3 1) v2 (q_X12_combsOut_24__3 n x1 x2 x3 s3) := rfl
theorem e_X12_combsOut_24__3 (n : Nat) (x1 : Int32) (x2 : Int32) (x3 : Int32) (s3 : wg_M) (v4 : Int32) : q_X12_combsOut_24__3 n x1 x2 x3 s3 v4 = if v4 = x2 then (wg_bd (f_X12_goesRule 0 x1 x3 s3) (q_X12_combsOut_24__4 n x1 x2 x3)) else (f_X12_combsOut_49 (f_X12_combsOut_24  n) 0 x1 x2 x3 s3) := rfl
theorem e_X12_combsOut_24__4 (n : Nat) (x1 : Int32) (x2 : Int32) (x3 : Int32) (_u4 : Int32) (s5 : wg_M) : q_X12_combsOut_24__4 n x1 x2 x3 _u4 s5 = f_X12_combsOut_49 (f_X12_combsOut_24  n) 0 x1 x2 x3 s5 := rfl
theorem e_X12_combsOut_24 (n : Nat) (x1 : Int32) (x2 : Int32) (x3 : Int32) (σ : wg_M) : f_X12_combsOut_24 (n + 1) 0 x1 x2 x3 σ = if x3 < 0 then (wg_bd (f_X12_itches 0 x1 σ) q_X12_combsOut_24__1) else (wg_bd (f_X12_ruleAt 0 x1 x3 σ) (q_X12_combsOut_24__2 n x1 x2 x3)) := by
  rw [f_X12_combsOut_24]
  simp only [sm_n1, sm_r0_1]
  rfl
def q_X12_combsOut__4 (x1 : Int32) (x2 : Int32) (s3 : wg_M) (v5 : Int32) : Option (Int32 × wg_M) := f_X12_combsOut_24  wg_N 0 x1 x2 v5 s3
def q_X12_combsOut__3 (x1 : Int32) (x2 : Int32) (s3 : wg_M) (v4 : Int32) : Option (Int32 × wg_M) := wg_let (v4 - (1 : Int32)) (q_X12_combsOut__4 x1 x2 s3)
def q_X12_combsOut__2 (x1 : Int32) (x2 : Int32) (_u2 : Int32) (s3 : wg_M) : Option (Int32 × wg_M) := wg_ga 295 (s3 1) ((67 : Int32) + x1) (q_X12_combsOut__3 x1 x2 s3)
def q_X12_combsOut__1 (x1 : Int32) (x2 : Int32) (v1 : Int32) (s2 : wg_M) : Option (Int32 × wg_M) := wg_bd (f_X12_notes 0 (4 : Int32) x1 v1 s2) (q_X12_combsOut__2 x1 x2)
theorem e_X12_combsOut__1 (x1 : Int32) (x2 : Int32) (v1 : Int32) (s2 : wg_M) : q_X12_combsOut__1 x1 x2 v1 s2 = wg_bd (f_X12_notes 0 (4 : Int32) x1 v1 s2) (q_X12_combsOut__2 x1 x2) := rfl
theorem e_X12_combsOut__2 (x1 : Int32) (x2 : Int32) (_u2 : Int32) (s3 : wg_M) : q_X12_combsOut__2 x1 x2 _u2 s3 = wg_ga 295 (s3 1) ((67 : Int32) + x1) (q_X12_combsOut__3 x1 x2 s3) := rfl
theorem e_X12_combsOut__3 (x1 : Int32) (x2 : Int32) (s3 : wg_M) (v4 : Int32) : q_X12_combsOut__3 x1 x2 s3 v4 = wg_let (v4 - (1 : Int32)) (q_X12_combsOut__4 x1 x2 s3) := rfl
theorem e_X12_combsOut__4 (x1 : Int32) (x2 : Int32) (s3 : wg_M) (v5 : Int32) : q_X12_combsOut__4 x1 x2 s3 v5 = f_X12_combsOut_24  wg_N 0 x1 x2 v5 s3 := rfl
theorem e_X12_combsOut (x1 : Int32) (x2 : Int32) (σ : wg_M) : f_X12_combsOut 0 x1 x2 σ = wg_bd (f_X12_rulesFor 0 x1 x2 σ) (q_X12_combsOut__1 x1 x2) := by
  unfold f_X12_combsOut
  simp only [sm_n1, sm_r0_1]
  rfl
def q_X12_brushes_28__7 (n : Nat) (x1 : Int32) (s9 : wg_M) (v10 : Int32) : Option (Int32 × wg_M) := f_X12_brushes_28  n 0 x1 v10 s9
def q_X12_brushes_28__6 (n : Nat) (x1 : Int32) (x3 : Int32) (s9 : wg_M) : Option (Int32 × wg_M) := wg_let (x3 + (1 : Int32)) (q_X12_brushes_28__7 n x1 s9)
def q_X12_brushes_28__5 (n : Nat) (x1 : Int32) (x3 : Int32) (v2 : Int32) (v7 : Int32) (s8 : wg_M) : Option (Int32 × wg_M) := wg_sa 295 s8 1 (v2 + (2 : Int32)) v7 (q_X12_brushes_28__6 n x1 x3)
def q_X12_brushes_28__4 (n : Nat) (x1 : Int32) (x3 : Int32) (v2 : Int32) (s5 : wg_M) (v6 : Int32) : Option (Int32 × wg_M) := wg_bd (f_X12_greater 0 (1 : Int32) (v6 - (1 : Int32)) s5) (q_X12_brushes_28__5 n x1 x3 v2)
def q_X12_brushes_28__3 (n : Nat) (x1 : Int32) (x3 : Int32) (v2 : Int32) (v4 : Int32) (s5 : wg_M) : Option (Int32 × wg_M) := wg_ga 295 (s5 1) (v4 + (2 : Int32)) (q_X12_brushes_28__4 n x1 x3 v2 s5)
def q_X12_brushes_28__2 (n : Nat) (x1 : Int32) (x3 : Int32) (v2 : Int32) (s3 : wg_M) : Option (Int32 × wg_M) := wg_bd (f_X12_ruleAt 0 x1 x3 s3) (q_X12_brushes_28__3 n x1 x3 v2)
def q_X12_brushes_28__1 (n : Nat) (x1 : Int32) (x3 : Int32) (σ : wg_M) (v1 : Int32) : Option (Int32 × wg_M) := if v1 ≤ x3 then (some (0, σ)) else (wg_bd (f_X12_ruleAt 0 x1 x3 σ) (q_X12_brushes_28__2 n x1 x3))
theorem e_X12_brushes_28__1 (n : Nat) (x1 : Int32) (x3 : Int32) (σ : wg_M) (v1 : Int32) : q_X12_brushes_28__1 n x1 x3 σ v1 = if v1 ≤ x3 then (some (0, σ)) else (wg_bd (f_X12_ruleAt 0 x1 x3 σ) (q_X12_brushes_28__2 n x1 x3)) := rfl
theorem e_X12_brushes_28__2 (n : Nat) (x1 : Int32) (x3 : Int32) (v2 : Int32) (s3 : wg_M) : q_X12_brushes_28__2 n x1 x3 v2 s3 = wg_bd (f_X12_ruleAt 0 x1 x3 s3) (q_X12_brushes_28__3 n x1 x3 v2) := rfl
theorem e_X12_brushes_28__3 (n : Nat) (x1 : Int32) (x3 : Int32) (v2 : Int32) (v4 : Int32) (s5 : wg_M) : q_X12_brushes_28__3 n x1 x3 v2 v4 s5 = wg_ga 295 (s5 1) (v4 + (2 : Int32)) (q_X12_brushes_28__4 n x1 x3 v2 s5) := rfl
theorem e_X12_brushes_28__4 (n : Nat) (x1 : Int32) (x3 : Int32) (v2 : Int32) (s5 : wg_M) (v6 : Int32) : q_X12_brushes_28__4 n x1 x3 v2 s5 v6 = wg_bd (f_X12_greater 0 (1 : Int32) (v6 - (1 : Int32)) s5) (q_X12_brushes_28__5 n x1 x3 v2) := rfl
theorem e_X12_brushes_28__5 (n : Nat) (x1 : Int32) (x3 : Int32) (v2 : Int32) (v7 : Int32) (s8 : wg_M) : q_X12_brushes_28__5 n x1 x3 v2 v7 s8 = wg_sa 295 s8 1 (v2 + (2 : Int32)) v7 (q_X12_brushes_28__6 n x1 x3) := rfl
theorem e_X12_brushes_28__6 (n : Nat) (x1 : Int32) (x3 : Int32) (s9 : wg_M) : q_X12_brushes_28__6 n x1 x3 s9 = wg_let (x3 + (1 : Int32)) (q_X12_brushes_28__7 n x1 s9) := rfl
theorem e_X12_brushes_28__7 (n : Nat) (x1 : Int32) (s9 : wg_M) (v10 : Int32) : q_X12_brushes_28__7 n x1 s9 v10 = f_X12_brushes_28  n 0 x1 v10 s9 := rfl
theorem e_X12_brushes_28 (n : Nat) (x1 : Int32) (x3 : Int32) (σ : wg_M) : f_X12_brushes_28 (n + 1) 0 x1 x3 σ = wg_ga 295 (σ 1) ((67 : Int32) + x1) (q_X12_brushes_28__1 n x1 x3 σ) := by
  rw [f_X12_brushes_28]
  simp only [sm_n1, sm_r0_1]
  rfl
def q_X12_brushes__3 (x1 : Int32) (s4 : wg_M) : Option (Int32 × wg_M) := f_X12_brushes_28  wg_N 0 x1 (0 : Int32) s4
def q_X12_brushes__2 (x1 : Int32) (v2 : Int32) (s3 : wg_M) : Option (Int32 × wg_M) := wg_sa 295 s3 1 ((43 : Int32) + x1) v2 (q_X12_brushes__3 x1)
def q_X12_brushes__1 (x1 : Int32) (x2 : Int32) (σ : wg_M) (v1 : Int32) : Option (Int32 × wg_M) := wg_bd (f_X12_lesser 0 (99 : Int32) (v1 + x2) σ) (q_X12_brushes__2 x1)
theorem e_X12_brushes__1 (x1 : Int32) (x2 : Int32) (σ : wg_M) (v1 : Int32) : q_X12_brushes__1 x1 x2 σ v1 = wg_bd (f_X12_lesser 0 (99 : Int32) (v1 + x2) σ) (q_X12_brushes__2 x1) := rfl
theorem e_X12_brushes__2 (x1 : Int32) (v2 : Int32) (s3 : wg_M) : q_X12_brushes__2 x1 v2 s3 = wg_sa 295 s3 1 ((43 : Int32) + x1) v2 (q_X12_brushes__3 x1) := rfl
theorem e_X12_brushes__3 (x1 : Int32) (s4 : wg_M) : q_X12_brushes__3 x1 s4 = f_X12_brushes_28  wg_N 0 x1 (0 : Int32) s4 := rfl
theorem e_X12_brushes (x1 : Int32) (x2 : Int32) (σ : wg_M) : f_X12_brushes 0 x1 x2 σ = wg_ga 295 (σ 1) ((43 : Int32) + x1) (q_X12_brushes__1 x1 x2 σ) := by
  unfold f_X12_brushes
  simp only [sm_n1, sm_r0_1]
  rfl
def q_X12_acts_40__1 (_u1 : Int32) (s1 : wg_M) : Option (Int32 × wg_M) := some (0, s1)
theorem e_X12_acts_40__1 (_u1 : Int32) (s1 : wg_M) : q_X12_acts_40__1 _u1 s1 = some (0, s1) := rfl
theorem e_X12_acts_40 (x1 : Int32) (x2 : Int32) (x3 : Int32) (σ : wg_M) : f_X12_acts_40 0 x1 x2 x3 σ = if x1 = (3 : Int32) then (wg_bd (f_X12_brushes 0 x2 x3 σ) q_X12_acts_40__1) else (some (0, σ)) := rfl
def q_X12_acts_29__1 (x1 : Int32) (x2 : Int32) (x3 : Int32) (_u1 : Int32) (s1 : wg_M) : Option (Int32 × wg_M) := f_X12_acts_40  0 x1 x2 x3 s1
theorem e_X12_acts_29__1 (x1 : Int32) (x2 : Int32) (x3 : Int32) (_u1 : Int32) (s1 : wg_M) : q_X12_acts_29__1 x1 x2 x3 _u1 s1 = f_X12_acts_40  0 x1 x2 x3 s1 := rfl
theorem e_X12_acts_29 (x1 : Int32) (x2 : Int32) (x3 : Int32) (σ : wg_M) : f_X12_acts_29 0 x1 x2 x3 σ = if x1 = (2 : Int32) then (wg_bd (f_X12_combsOut 0 x2 x3 σ) (q_X12_acts_29__1 x1 x2 x3)) else (f_X12_acts_40  0 x1 x2 x3 σ) := rfl
def q_X12_acts_10__2 (x1 : Int32) (x2 : Int32) (x3 : Int32) (s3 : wg_M) : Option (Int32 × wg_M) := f_X12_acts_29  0 x1 x2 x3 s3
def q_X12_acts_10__1 (x1 : Int32) (x2 : Int32) (x3 : Int32) (v1 : Int32) (s2 : wg_M) : Option (Int32 × wg_M) := wg_sa 295 s2 1 ((13 : Int32) + v1) (0 : Int32) (q_X12_acts_10__2 x1 x2 x3)
theorem e_X12_acts_10__1 (x1 : Int32) (x2 : Int32) (x3 : Int32) (v1 : Int32) (s2 : wg_M) : q_X12_acts_10__1 x1 x2 x3 v1 s2 = wg_sa 295 s2 1 ((13 : Int32) + v1) (0 : Int32) (q_X12_acts_10__2 x1 x2 x3) := rfl
theorem e_X12_acts_10__2 (x1 : Int32) (x2 : Int32) (x3 : Int32) (s3 : wg_M) : q_X12_acts_10__2 x1 x2 x3 s3 = f_X12_acts_29  0 x1 x2 x3 s3 := rfl
theorem e_X12_acts_10 (x1 : Int32) (x2 : Int32) (x3 : Int32) (σ : wg_M) : f_X12_acts_10 0 x1 x2 x3 σ = if x1 = (1 : Int32) then (wg_bd (f_X12_wearerOf 0 x2 σ) (q_X12_acts_10__1 x1 x2 x3)) else (f_X12_acts_29  0 x1 x2 x3 σ) := by
  unfold f_X12_acts_10
  simp only [sm_n1, sm_r0_1]
  rfl
def q_X12_acts__1 (x1 : Int32) (x2 : Int32) (x3 : Int32) (_u1 : Int32) (s1 : wg_M) : Option (Int32 × wg_M) := f_X12_acts_10  0 x1 x2 x3 s1
theorem e_X12_acts__1 (x1 : Int32) (x2 : Int32) (x3 : Int32) (_u1 : Int32) (s1 : wg_M) : q_X12_acts__1 x1 x2 x3 _u1 s1 = f_X12_acts_10  0 x1 x2 x3 s1 := rfl
theorem e_X12_acts (x1 : Int32) (x2 : Int32) (x3 : Int32) (σ : wg_M) : f_X12_acts 0 x1 x2 x3 σ = if x1 = 0 then (wg_bd (f_X12_isOn 0 x2 x3 σ) (q_X12_acts__1 x1 x2 x3)) else (f_X12_acts_10  0 x1 x2 x3 σ) := rfl
theorem e_X12_isWorth_40 (σ : wg_M) : f_X12_isWorth_40 σ = some ((1 : Int32), σ) := rfl
def q_X12_isWorth__3 (v1 : Int32) (s2 : wg_M) : Option (Int32 × wg_M) := if v1 = 0 then (some ((0 : Int32), s2)) else (f_X12_isWorth_40   s2)
def q_X12_isWorth__2 (v3 : Int32) (s4 : wg_M) : Option (Int32 × wg_M) := wg_bz v3 (some (v3, s4))
def q_X12_isWorth__1 (v5 : Int32) (s6 : wg_M) : Option (Int32 × wg_M) := wg_bz v5 (some (v5, s6))
theorem e_X12_isWorth__1 (v5 : Int32) (s6 : wg_M) : q_X12_isWorth__1 v5 s6 = wg_bz v5 (some (v5, s6)) := rfl
theorem e_X12_isWorth__2 (v3 : Int32) (s4 : wg_M) : q_X12_isWorth__2 v3 s4 = wg_bz v3 (some (v3, s4)) := rfl
theorem e_X12_isWorth__3 (v1 : Int32) (s2 : wg_M) : q_X12_isWorth__3 v1 s2 = if v1 = 0 then (some ((0 : Int32), s2)) else (f_X12_isWorth_40   s2) := rfl
theorem e_X12_isWorth (x1 : Int32) (x2 : Int32) (σ : wg_M) : f_X12_isWorth 0 x1 x2 σ = if x1 = 0 then (wg_bd (f_X12_isJudge 0 x2 σ) q_X12_isWorth__1) else (if x1 = (2 : Int32) then (wg_bd (f_X12_isIn 0 x2 (0 : Int32) (7 : Int32) σ) q_X12_isWorth__2) else (if x1 = (1 : Int32) then (f_X12_isWorth_40   σ) else (wg_bd (f_X12_isIn 0 x2 (1 : Int32) (99 : Int32) σ) q_X12_isWorth__3))) := rfl
def q_X12_act__7 (_u7 : Int32) (s11 : wg_M) : Option (Int32 × wg_M) := some ((1 : Int32), s11)
def q_X12_act__6 (x1 : Int32) (x2 : Int32) (x3 : Int32) (_u6 : Int32) (s10 : wg_M) : Option (Int32 × wg_M) := wg_bd (f_X12_acts 0 x1 x2 x3 s10) q_X12_act__7
def q_X12_act__5 (x1 : Int32) (x2 : Int32) (x3 : Int32) (v8 : Int32) (s9 : wg_M) : Option (Int32 × wg_M) := if v8 = 0 then (some ((0 : Int32), s9)) else (wg_bd (f_X12_keepsAhead 0 s9) (q_X12_act__6 x1 x2 x3))
def q_X12_act__4 (x1 : Int32) (x2 : Int32) (x3 : Int32) (v6 : Int32) (s7 : wg_M) : Option (Int32 × wg_M) := if v6 = 0 then (some ((0 : Int32), s7)) else (wg_bd (f_X12_canAct 0 x1 x2 x3 s7) (q_X12_act__5 x1 x2 x3))
def q_X12_act__3 (x1 : Int32) (x2 : Int32) (x3 : Int32) (v4 : Int32) (s5 : wg_M) : Option (Int32 × wg_M) := if v4 = 0 then (some ((0 : Int32), s5)) else (wg_bd (f_X12_isWorth 0 x1 x3 s5) (q_X12_act__4 x1 x2 x3))
def q_X12_act__2 (x1 : Int32) (x2 : Int32) (x3 : Int32) (v2 : Int32) (s3 : wg_M) : Option (Int32 × wg_M) := if v2 = 0 then (some ((0 : Int32), s3)) else (wg_bd (f_X12_isWig 0 x2 s3) (q_X12_act__3 x1 x2 x3))
def q_X12_act__1 (x1 : Int32) (x2 : Int32) (x3 : Int32) (s1 : wg_M) : Option (Int32 × wg_M) := wg_bd (f_X12_isIn 0 x1 (0 : Int32) (3 : Int32) s1) (q_X12_act__2 x1 x2 x3)
theorem e_X12_act__1 (x1 : Int32) (x2 : Int32) (x3 : Int32) (s1 : wg_M) : q_X12_act__1 x1 x2 x3 s1 = wg_bd (f_X12_isIn 0 x1 (0 : Int32) (3 : Int32) s1) (q_X12_act__2 x1 x2 x3) := rfl
theorem e_X12_act__2 (x1 : Int32) (x2 : Int32) (x3 : Int32) (v2 : Int32) (s3 : wg_M) : q_X12_act__2 x1 x2 x3 v2 s3 = if v2 = 0 then (some ((0 : Int32), s3)) else (wg_bd (f_X12_isWig 0 x2 s3) (q_X12_act__3 x1 x2 x3)) := rfl
theorem e_X12_act__3 (x1 : Int32) (x2 : Int32) (x3 : Int32) (v4 : Int32) (s5 : wg_M) : q_X12_act__3 x1 x2 x3 v4 s5 = if v4 = 0 then (some ((0 : Int32), s5)) else (wg_bd (f_X12_isWorth 0 x1 x3 s5) (q_X12_act__4 x1 x2 x3)) := rfl
theorem e_X12_act__4 (x1 : Int32) (x2 : Int32) (x3 : Int32) (v6 : Int32) (s7 : wg_M) : q_X12_act__4 x1 x2 x3 v6 s7 = if v6 = 0 then (some ((0 : Int32), s7)) else (wg_bd (f_X12_canAct 0 x1 x2 x3 s7) (q_X12_act__5 x1 x2 x3)) := rfl
theorem e_X12_act__5 (x1 : Int32) (x2 : Int32) (x3 : Int32) (v8 : Int32) (s9 : wg_M) : q_X12_act__5 x1 x2 x3 v8 s9 = if v8 = 0 then (some ((0 : Int32), s9)) else (wg_bd (f_X12_keepsAhead 0 s9) (q_X12_act__6 x1 x2 x3)) := rfl
theorem e_X12_act__6 (x1 : Int32) (x2 : Int32) (x3 : Int32) (_u6 : Int32) (s10 : wg_M) : q_X12_act__6 x1 x2 x3 _u6 s10 = wg_bd (f_X12_acts 0 x1 x2 x3 s10) q_X12_act__7 := rfl
theorem e_X12_act__7 (_u7 : Int32) (s11 : wg_M) : q_X12_act__7 _u7 s11 = some ((1 : Int32), s11) := rfl
theorem e_X12_act (x1 : Int32) (x2 : Int32) (x3 : Int32) (σ : wg_M) : f_X12_act 0 x1 x2 x3 σ = wg_st σ 0 0 (0 : Int32) (q_X12_act__1 x1 x2 x3) := rfl
def q_X12_youngest_55__1 (k4 : Nat → Int32 → Int32 → wg_M → Option (Int32 × wg_M)) (x1 : Int32) (σ : wg_M) (v1 : Int32) : Option (Int32 × wg_M) := k4 0 x1 v1 σ
theorem e_X12_youngest_55__1 (k4 : Nat → Int32 → Int32 → wg_M → Option (Int32 × wg_M)) (x1 : Int32) (σ : wg_M) (v1 : Int32) : q_X12_youngest_55__1 k4 x1 σ v1 = k4 0 x1 v1 σ := rfl
theorem e_X12_youngest_55 (k4 : Nat → Int32 → Int32 → wg_M → Option (Int32 × wg_M)) (x1 : Int32) (x2 : Int32) (σ : wg_M) : f_X12_youngest_55 k4 0 x1 x2 σ = wg_let (x2 + (1 : Int32)) (q_X12_youngest_55__1 k4 x1 σ) := rfl
theorem e_X12_youngest_53 (k4 : Nat → Int32 → Int32 → wg_M → Option (Int32 × wg_M)) (x2 : Int32) (σ : wg_M) : f_X12_youngest_53 k4 0 x2 σ = f_X12_youngest_55 k4 0 x2 x2 σ := rfl
def q_X12_youngest_4__4 (n : Nat) (x1 : Int32) (x2 : Int32) (s4 : wg_M) (v5 : Int32) (v6 : Int32) : Option (Int32 × wg_M) := if v6 ≤ v5 then (f_X12_youngest_55 (f_X12_youngest_4  n) 0 x1 x2 s4) else (f_X12_youngest_53 (f_X12_youngest_4  n) 0 x2 s4)
def q_X12_youngest_4__3 (n : Nat) (x1 : Int32) (x2 : Int32) (s4 : wg_M) (v5 : Int32) : Option (Int32 × wg_M) := wg_ga 295 (s4 1) ((3 : Int32) + x1) (q_X12_youngest_4__4 n x1 x2 s4 v5)
def q_X12_youngest_4__2 (n : Nat) (x1 : Int32) (x2 : Int32) (v3 : Int32) (s4 : wg_M) : Option (Int32 × wg_M) := if v3 = (-1 : Int32) then (if x1 = (-1 : Int32) then (f_X12_youngest_53 (f_X12_youngest_4  n) 0 x2 s4) else (wg_ga 295 (s4 1) ((3 : Int32) + x2) (q_X12_youngest_4__3 n x1 x2 s4))) else (f_X12_youngest_55 (f_X12_youngest_4  n) 0 x1 x2 s4)
def q_X12_youngest_4__1 (n : Nat) (x1 : Int32) (x2 : Int32) (v1 : Int32) (s2 : wg_M) : Option (Int32 × wg_M) := if v1 = 0 then (f_X12_youngest_55 (f_X12_youngest_4  n) 0 x1 x2 s2) else (wg_bd (f_X12_wigOf 0 x2 s2) (q_X12_youngest_4__2 n x1 x2))
theorem e_X12_youngest_4__1 (n : Nat) (x1 : Int32) (x2 : Int32) (v1 : Int32) (s2 : wg_M) : q_X12_youngest_4__1 n x1 x2 v1 s2 = if v1 = 0 then (f_X12_youngest_55 (f_X12_youngest_4  n) 0 x1 x2 s2) else (wg_bd (f_X12_wigOf 0 x2 s2) (q_X12_youngest_4__2 n x1 x2)) := rfl
theorem e_X12_youngest_4__2 (n : Nat) (x1 : Int32) (x2 : Int32) (v3 : Int32) (s4 : wg_M) : q_X12_youngest_4__2 n x1 x2 v3 s4 = if v3 = (-1 : Int32) then (if x1 = (-1 : Int32) then (f_X12_youngest_53 (f_X12_youngest_4  n) 0 x2 s4) else (wg_ga 295 (s4 1) ((3 : Int32) + x2) (q_X12_youngest_4__3 n x1 x2 s4))) else (f_X12_youngest_55 (f_X12_youngest_4  n) 0 x1 x2 s4) := rfl
theorem e_X12_youngest_4__3 (n : Nat) (x1 : Int32) (x2 : Int32) (s4 : wg_M) (v5 : Int32) : q_X12_youngest_4__3 n x1 x2 s4 v5 = wg_ga 295 (s4 1) ((3 : Int32) + x1) (q_X12_youngest_4__4 n x1 x2 s4 v5) := rfl
theorem e_X12_youngest_4__4 (n : Nat) (x1 : Int32) (x2 : Int32) (s4 : wg_M) (v5 : Int32) (v6 : Int32) : q_X12_youngest_4__4 n x1 x2 s4 v5 v6 = if v6 ≤ v5 then (f_X12_youngest_55 (f_X12_youngest_4  n) 0 x1 x2 s4) else (f_X12_youngest_53 (f_X12_youngest_4  n) 0 x2 s4) := rfl
theorem e_X12_youngest_4 (n : Nat) (x1 : Int32) (x2 : Int32) (σ : wg_M) : f_X12_youngest_4 (n + 1) 0 x1 x2 σ = if (σ 0 7) ≤ x2 then (some (x1, σ)) else (wg_bd (f_X12_isAlive 0 x2 σ) (q_X12_youngest_4__1 n x1 x2)) := by
  rw [f_X12_youngest_4]
  simp only [sm_n1, sm_r0_1]
  rfl
theorem e_X12_youngest (σ : wg_M) : f_X12_youngest 0 σ = f_X12_youngest_4  wg_N 0 (-1 : Int32) (0 : Int32) σ := rfl
def q_X12_dies__8 (_u8 : Int32) (s11 : wg_M) : Option (Int32 × wg_M) := some (0, s11)
def q_X12_dies__7 (v1 : Int32) (v9 : Int32) (s10 : wg_M) : Option (Int32 × wg_M) := wg_bd (f_X12_isOn 0 v1 v9 s10) q_X12_dies__8
def q_X12_dies__6 (v1 : Int32) (v7 : Int32) (s8 : wg_M) : Option (Int32 × wg_M) := if v7 = (-1 : Int32) then (some (0, s8)) else (wg_bd (f_X12_youngest 0 s8) (q_X12_dies__7 v1))
def q_X12_dies__5 (v1 : Int32) (_u5 : Int32) (s6 : wg_M) : Option (Int32 × wg_M) := if v1 = (-1 : Int32) then (some (0, s6)) else (wg_bd (f_X12_youngest 0 s6) (q_X12_dies__6 v1))
def q_X12_dies__4 (x1 : Int32) (v1 : Int32) (s4 : wg_M) (v5 : Int32) : Option (Int32 × wg_M) := wg_bd (f_X12_notes 0 (2 : Int32) x1 v5 s4) (q_X12_dies__5 v1)
def q_X12_dies__3 (x1 : Int32) (v1 : Int32) (s4 : wg_M) : Option (Int32 × wg_M) := wg_ga 295 (s4 1) ((3 : Int32) + x1) (q_X12_dies__4 x1 v1 s4)
def q_X12_dies__2 (x1 : Int32) (v1 : Int32) (s3 : wg_M) : Option (Int32 × wg_M) := wg_sa 295 s3 1 ((13 : Int32) + x1) (0 : Int32) (q_X12_dies__3 x1 v1)
def q_X12_dies__1 (x1 : Int32) (v1 : Int32) (s2 : wg_M) : Option (Int32 × wg_M) := wg_sa 295 s2 1 ((23 : Int32) + x1) (1 : Int32) (q_X12_dies__2 x1 v1)
theorem e_X12_dies__1 (x1 : Int32) (v1 : Int32) (s2 : wg_M) : q_X12_dies__1 x1 v1 s2 = wg_sa 295 s2 1 ((23 : Int32) + x1) (1 : Int32) (q_X12_dies__2 x1 v1) := rfl
theorem e_X12_dies__2 (x1 : Int32) (v1 : Int32) (s3 : wg_M) : q_X12_dies__2 x1 v1 s3 = wg_sa 295 s3 1 ((13 : Int32) + x1) (0 : Int32) (q_X12_dies__3 x1 v1) := rfl
theorem e_X12_dies__3 (x1 : Int32) (v1 : Int32) (s4 : wg_M) : q_X12_dies__3 x1 v1 s4 = wg_ga 295 (s4 1) ((3 : Int32) + x1) (q_X12_dies__4 x1 v1 s4) := rfl
theorem e_X12_dies__4 (x1 : Int32) (v1 : Int32) (s4 : wg_M) (v5 : Int32) : q_X12_dies__4 x1 v1 s4 v5 = wg_bd (f_X12_notes 0 (2 : Int32) x1 v5 s4) (q_X12_dies__5 v1) := rfl
theorem e_X12_dies__5 (v1 : Int32) (_u5 : Int32) (s6 : wg_M) : q_X12_dies__5 v1 _u5 s6 = if v1 = (-1 : Int32) then (some (0, s6)) else (wg_bd (f_X12_youngest 0 s6) (q_X12_dies__6 v1)) := rfl
theorem e_X12_dies__6 (v1 : Int32) (v7 : Int32) (s8 : wg_M) : q_X12_dies__6 v1 v7 s8 = if v7 = (-1 : Int32) then (some (0, s8)) else (wg_bd (f_X12_youngest 0 s8) (q_X12_dies__7 v1)) := rfl
theorem e_X12_dies__7 (v1 : Int32) (v9 : Int32) (s10 : wg_M) : q_X12_dies__7 v1 v9 s10 = wg_bd (f_X12_isOn 0 v1 v9 s10) q_X12_dies__8 := rfl
theorem e_X12_dies__8 (_u8 : Int32) (s11 : wg_M) : q_X12_dies__8 _u8 s11 = some (0, s11) := rfl
theorem e_X12_dies (x1 : Int32) (σ : wg_M) : f_X12_dies 0 x1 σ = wg_bd (f_X12_wigOf 0 x1 σ) (q_X12_dies__1 x1) := by
  unfold f_X12_dies
  simp only [sm_n1, sm_r0_1]
  rfl
theorem e_X12_isEnding_45 (σ : wg_M) : f_X12_isEnding_45 σ = some ((1 : Int32), σ) := rfl
def q_X12_isEnding_24__1 (x2 : Int32) (t0 : Int32) (v1 : Int32) (s2 : wg_M) : Option (Int32 × wg_M) := if x2 ≤ v1 then (wg_bz t0 (some (t0, s2))) else (some ((1 : Int32), s2))
theorem e_X12_isEnding_24__1 (x2 : Int32) (t0 : Int32) (v1 : Int32) (s2 : wg_M) : q_X12_isEnding_24__1 x2 t0 v1 s2 = if x2 ≤ v1 then (wg_bz t0 (some (t0, s2))) else (some ((1 : Int32), s2)) := rfl
theorem e_X12_isEnding_24 (x2 : Int32) (t0 : Int32) (σ : wg_M) : f_X12_isEnding_24 0 x2 t0 σ = if (σ 0 5) = 0 then (if x2 ≤ 0 then (wg_bz t0 (some (t0, σ))) else (wg_bd (f_X12_draw 0 (1000 : Int32) σ) (q_X12_isEnding_24__1 x2 t0))) else (if t0 = 0 then (if ((2 : Int32) * x2) < (1000 : Int32) then (some ((0 : Int32), σ)) else (f_X12_isEnding_45   σ)) else (f_X12_isEnding_45   σ)) := rfl
def q_X12_isEnding__2 (v1 : Int32) (s2 : wg_M) (v3 : Int32) : Option (Int32 × wg_M) := if v3 = (120 : Int32) then (f_X12_isEnding_24  0 v1 (1 : Int32) s2) else (f_X12_isEnding_24  0 v1 (0 : Int32) s2)
def q_X12_isEnding__1 (x1 : Int32) (v1 : Int32) (s2 : wg_M) : Option (Int32 × wg_M) := wg_ga 295 (s2 1) ((3 : Int32) + x1) (q_X12_isEnding__2 v1 s2)
theorem e_X12_isEnding__1 (x1 : Int32) (v1 : Int32) (s2 : wg_M) : q_X12_isEnding__1 x1 v1 s2 = wg_ga 295 (s2 1) ((3 : Int32) + x1) (q_X12_isEnding__2 v1 s2) := rfl
theorem e_X12_isEnding__2 (v1 : Int32) (s2 : wg_M) (v3 : Int32) : q_X12_isEnding__2 v1 s2 v3 = if v3 = (120 : Int32) then (f_X12_isEnding_24  0 v1 (1 : Int32) s2) else (f_X12_isEnding_24  0 v1 (0 : Int32) s2) := rfl
theorem e_X12_isEnding (x1 : Int32) (σ : wg_M) : f_X12_isEnding 0 x1 σ = wg_bd (f_X12_diesOf 0 x1 σ) (q_X12_isEnding__1 x1) := by
  unfold f_X12_isEnding
  simp only [sm_n1, sm_r0_1]
  rfl
def q_X12_wears_83__8 (n : Nat) (x1 : Int32) (s11 : wg_M) (v12 : Int32) : Option (Int32 × wg_M) := f_X12_wears_83  n 0 x1 v12 s11
def q_X12_wears_83__7 (n : Nat) (x1 : Int32) (x2 : Int32) (s11 : wg_M) : Option (Int32 × wg_M) := wg_let (x2 + (1 : Int32)) (q_X12_wears_83__8 n x1 s11)
def q_X12_wears_83__6 (n : Nat) (x1 : Int32) (x2 : Int32) (v4 : Int32) (v9 : Int32) (s10 : wg_M) : Option (Int32 × wg_M) := wg_sa 295 s10 1 (v4 + (2 : Int32)) v9 (q_X12_wears_83__7 n x1 x2)
def q_X12_wears_83__5 (n : Nat) (x1 : Int32) (x2 : Int32) (v4 : Int32) (s7 : wg_M) (v8 : Int32) : Option (Int32 × wg_M) := wg_bd (f_X12_lesser 0 (99 : Int32) (v8 + (1 : Int32)) s7) (q_X12_wears_83__6 n x1 x2 v4)
def q_X12_wears_83__4 (n : Nat) (x1 : Int32) (x2 : Int32) (v4 : Int32) (v6 : Int32) (s7 : wg_M) : Option (Int32 × wg_M) := wg_ga 295 (s7 1) (v6 + (2 : Int32)) (q_X12_wears_83__5 n x1 x2 v4 s7)
def q_X12_wears_83__3 (n : Nat) (x1 : Int32) (x2 : Int32) (v4 : Int32) (s5 : wg_M) : Option (Int32 × wg_M) := wg_bd (f_X12_ruleAt 0 x1 x2 s5) (q_X12_wears_83__4 n x1 x2 v4)
def q_X12_wears_83__2 (n : Nat) (x1 : Int32) (x2 : Int32) (v2 : Int32) (s3 : wg_M) : Option (Int32 × wg_M) := if v2 = (-1 : Int32) then (some (0, s3)) else (wg_bd (f_X12_ruleAt 0 x1 x2 s3) (q_X12_wears_83__3 n x1 x2))
def q_X12_wears_83__1 (n : Nat) (x1 : Int32) (x2 : Int32) (σ : wg_M) (v1 : Int32) : Option (Int32 × wg_M) := if v1 ≤ x2 then (some (0, σ)) else (wg_bd (f_X12_wearerOf 0 x1 σ) (q_X12_wears_83__2 n x1 x2))
theorem e_X12_wears_83__1 (n : Nat) (x1 : Int32) (x2 : Int32) (σ : wg_M) (v1 : Int32) : q_X12_wears_83__1 n x1 x2 σ v1 = if v1 ≤ x2 then (some (0, σ)) else (wg_bd (f_X12_wearerOf 0 x1 σ) (q_X12_wears_83__2 n x1 x2)) := rfl
theorem e_X12_wears_83__2 (n : Nat) (x1 : Int32) (x2 : Int32) (v2 : Int32) (s3 : wg_M) : q_X12_wears_83__2 n x1 x2 v2 s3 = if v2 = (-1 : Int32) then (some (0, s3)) else (wg_bd (f_X12_ruleAt 0 x1 x2 s3) (q_X12_wears_83__3 n x1 x2)) := rfl
theorem e_X12_wears_83__3 (n : Nat) (x1 : Int32) (x2 : Int32) (v4 : Int32) (s5 : wg_M) : q_X12_wears_83__3 n x1 x2 v4 s5 = wg_bd (f_X12_ruleAt 0 x1 x2 s5) (q_X12_wears_83__4 n x1 x2 v4) := rfl
theorem e_X12_wears_83__4 (n : Nat) (x1 : Int32) (x2 : Int32) (v4 : Int32) (v6 : Int32) (s7 : wg_M) : q_X12_wears_83__4 n x1 x2 v4 v6 s7 = wg_ga 295 (s7 1) (v6 + (2 : Int32)) (q_X12_wears_83__5 n x1 x2 v4 s7) := rfl
theorem e_X12_wears_83__5 (n : Nat) (x1 : Int32) (x2 : Int32) (v4 : Int32) (s7 : wg_M) (v8 : Int32) : q_X12_wears_83__5 n x1 x2 v4 s7 v8 = wg_bd (f_X12_lesser 0 (99 : Int32) (v8 + (1 : Int32)) s7) (q_X12_wears_83__6 n x1 x2 v4) := rfl
theorem e_X12_wears_83__6 (n : Nat) (x1 : Int32) (x2 : Int32) (v4 : Int32) (v9 : Int32) (s10 : wg_M) : q_X12_wears_83__6 n x1 x2 v4 v9 s10 = wg_sa 295 s10 1 (v4 + (2 : Int32)) v9 (q_X12_wears_83__7 n x1 x2) := rfl
theorem e_X12_wears_83__7 (n : Nat) (x1 : Int32) (x2 : Int32) (s11 : wg_M) : q_X12_wears_83__7 n x1 x2 s11 = wg_let (x2 + (1 : Int32)) (q_X12_wears_83__8 n x1 s11) := rfl
theorem e_X12_wears_83__8 (n : Nat) (x1 : Int32) (s11 : wg_M) (v12 : Int32) : q_X12_wears_83__8 n x1 s11 v12 = f_X12_wears_83  n 0 x1 v12 s11 := rfl
theorem e_X12_wears_83 (n : Nat) (x1 : Int32) (x2 : Int32) (σ : wg_M) : f_X12_wears_83 (n + 1) 0 x1 x2 σ = wg_ga 295 (σ 1) ((67 : Int32) + x1) (q_X12_wears_83__1 n x1 x2 σ) := by
  rw [f_X12_wears_83]
  simp only [sm_n1, sm_r0_1]
  rfl

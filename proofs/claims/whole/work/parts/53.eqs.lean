theorem e_X12_wears_81 (x1 : Int32) (σ : wg_M) : f_X12_wears_81 0 x1 σ = f_X12_wears_83  wg_N 0 x1 (0 : Int32) σ := rfl
def q_X12_wears__11 (x1 : Int32) (_u11 : Int32) (s14 : wg_M) : Option (Int32 × wg_M) := f_X12_wears_81  0 x1 s14
def q_X12_wears__10 (x1 : Int32) (_u10 : Int32) (s13 : wg_M) : Option (Int32 × wg_M) := wg_bd (f_X12_itches 0 x1 s13) (q_X12_wears__11 x1)
def q_X12_wears__9 (x1 : Int32) (_u9 : Int32) (s12 : wg_M) : Option (Int32 × wg_M) := wg_bd (f_X12_goesRule 0 x1 (0 : Int32) s12) (q_X12_wears__10 x1)
def q_X12_wears__8 (x1 : Int32) (s10 : wg_M) (v11 : Int32) : Option (Int32 × wg_M) := wg_bd (f_X12_notes 0 (3 : Int32) x1 v11 s10) (q_X12_wears__9 x1)
def q_X12_wears__7 (x1 : Int32) (v9 : Int32) (s10 : wg_M) : Option (Int32 × wg_M) := wg_ga 295 (s10 1) v9 (q_X12_wears__8 x1 s10)
def q_X12_wears__6 (x1 : Int32) (s6 : wg_M) (v8 : Int32) : Option (Int32 × wg_M) := if v8 ≤ 0 then (f_X12_wears_81  0 x1 s6) else (wg_bd (f_X12_ruleAt 0 x1 (0 : Int32) s6) (q_X12_wears__7 x1))
def q_X12_wears__5 (x1 : Int32) (s6 : wg_M) (v7 : Int32) : Option (Int32 × wg_M) := if v7 = 0 then (wg_ga 295 (s6 1) ((67 : Int32) + x1) (q_X12_wears__6 x1 s6)) else (f_X12_wears_81  0 x1 s6)
def q_X12_wears__4 (x1 : Int32) (s6 : wg_M) : Option (Int32 × wg_M) := wg_ga 295 (s6 1) ((43 : Int32) + x1) (q_X12_wears__5 x1 s6)
def q_X12_wears__3 (x1 : Int32) (v4 : Int32) (s5 : wg_M) : Option (Int32 × wg_M) := wg_sa 295 s5 1 ((43 : Int32) + x1) v4 (q_X12_wears__4 x1)
def q_X12_wears__2 (x1 : Int32) (v1 : Int32) (v2 : Int32) (s3 : wg_M) : Option (Int32 × wg_M) := wg_bd (f_X12_greater 0 (0 : Int32) (v1 - v2) s3) (q_X12_wears__3 x1)
def q_X12_wears__1 (x1 : Int32) (σ : wg_M) (v1 : Int32) : Option (Int32 × wg_M) := wg_bd (f_X12_mothOf 0 x1 σ) (q_X12_wears__2 x1 v1)
theorem e_X12_wears__1 (x1 : Int32) (σ : wg_M) (v1 : Int32) : q_X12_wears__1 x1 σ v1 = wg_bd (f_X12_mothOf 0 x1 σ) (q_X12_wears__2 x1 v1) := rfl
theorem e_X12_wears__2 (x1 : Int32) (v1 : Int32) (v2 : Int32) (s3 : wg_M) : q_X12_wears__2 x1 v1 v2 s3 = wg_bd (f_X12_greater 0 (0 : Int32) (v1 - v2) s3) (q_X12_wears__3 x1) := rfl
theorem e_X12_wears__3 (x1 : Int32) (v4 : Int32) (s5 : wg_M) : q_X12_wears__3 x1 v4 s5 = wg_sa 295 s5 1 ((43 : Int32) + x1) v4 (q_X12_wears__4 x1) := rfl
theorem e_X12_wears__4 (x1 : Int32) (s6 : wg_M) : q_X12_wears__4 x1 s6 = wg_ga 295 (s6 1) ((43 : Int32) + x1) (q_X12_wears__5 x1 s6) := rfl
theorem e_X12_wears__5 (x1 : Int32) (s6 : wg_M) (v7 : Int32) : q_X12_wears__5 x1 s6 v7 = if v7 = 0 then (wg_ga 295 (s6 1) ((67 : Int32) + x1) (q_X12_wears__6 x1 s6)) else (f_X12_wears_81  0 x1 s6) := rfl
theorem e_X12_wears__6 (x1 : Int32) (s6 : wg_M) (v8 : Int32) : q_X12_wears__6 x1 s6 v8 = if v8 ≤ 0 then (f_X12_wears_81  0 x1 s6) else (wg_bd (f_X12_ruleAt 0 x1 (0 : Int32) s6) (q_X12_wears__7 x1)) := rfl
theorem e_X12_wears__7 (x1 : Int32) (v9 : Int32) (s10 : wg_M) : q_X12_wears__7 x1 v9 s10 = wg_ga 295 (s10 1) v9 (q_X12_wears__8 x1 s10) := rfl
theorem e_X12_wears__8 (x1 : Int32) (s10 : wg_M) (v11 : Int32) : q_X12_wears__8 x1 s10 v11 = wg_bd (f_X12_notes 0 (3 : Int32) x1 v11 s10) (q_X12_wears__9 x1) := rfl
theorem e_X12_wears__9 (x1 : Int32) (_u9 : Int32) (s12 : wg_M) : q_X12_wears__9 x1 _u9 s12 = wg_bd (f_X12_goesRule 0 x1 (0 : Int32) s12) (q_X12_wears__10 x1) := rfl
theorem e_X12_wears__10 (x1 : Int32) (_u10 : Int32) (s13 : wg_M) : q_X12_wears__10 x1 _u10 s13 = wg_bd (f_X12_itches 0 x1 s13) (q_X12_wears__11 x1) := rfl
theorem e_X12_wears__11 (x1 : Int32) (_u11 : Int32) (s14 : wg_M) : q_X12_wears__11 x1 _u11 s14 = f_X12_wears_81  0 x1 s14 := rfl
theorem e_X12_wears (x1 : Int32) (σ : wg_M) : f_X12_wears 0 x1 σ = wg_ga 295 (σ 1) ((43 : Int32) + x1) (q_X12_wears__1 x1 σ) := by
  unfold f_X12_wears
  simp only [sm_n1, sm_r0_1]
  rfl
def q_X12_goesBy_86__1 (k2 : Nat → Int32 → wg_M → Option (Int32 × wg_M)) (σ : wg_M) (v1 : Int32) : Option (Int32 × wg_M) := k2 0 v1 σ
theorem e_X12_goesBy_86__1 (k2 : Nat → Int32 → wg_M → Option (Int32 × wg_M)) (σ : wg_M) (v1 : Int32) : q_X12_goesBy_86__1 k2 σ v1 = k2 0 v1 σ := rfl
theorem e_X12_goesBy_86 (k2 : Nat → Int32 → wg_M → Option (Int32 × wg_M)) (x1 : Int32) (σ : wg_M) : f_X12_goesBy_86 k2 0 x1 σ = wg_let (x1 + (4 : Int32)) (q_X12_goesBy_86__1 k2 σ) := rfl
def q_X12_goesBy_164__1 (k95 : Nat → Int32 → wg_M → Option (Int32 × wg_M)) (σ : wg_M) (v1 : Int32) : Option (Int32 × wg_M) := k95 0 v1 σ
theorem e_X12_goesBy_164__1 (k95 : Nat → Int32 → wg_M → Option (Int32 × wg_M)) (σ : wg_M) (v1 : Int32) : q_X12_goesBy_164__1 k95 σ v1 = k95 0 v1 σ := rfl
theorem e_X12_goesBy_164 (k95 : Nat → Int32 → wg_M → Option (Int32 × wg_M)) (x1 : Int32) (σ : wg_M) : f_X12_goesBy_164 k95 0 x1 σ = wg_let (x1 + (3 : Int32)) (q_X12_goesBy_164__1 k95 σ) := rfl
def q_X12_goesBy_238__1 (k175 : Nat → Int32 → Int32 → wg_M → Option (Int32 × wg_M)) (x1 : Int32) (σ : wg_M) (v1 : Int32) : Option (Int32 × wg_M) := k175 0 x1 v1 σ
theorem e_X12_goesBy_238__1 (k175 : Nat → Int32 → Int32 → wg_M → Option (Int32 × wg_M)) (x1 : Int32) (σ : wg_M) (v1 : Int32) : q_X12_goesBy_238__1 k175 x1 σ v1 = k175 0 x1 v1 σ := rfl
theorem e_X12_goesBy_238 (k175 : Nat → Int32 → Int32 → wg_M → Option (Int32 × wg_M)) (x1 : Int32) (x2 : Int32) (σ : wg_M) : f_X12_goesBy_238 k175 0 x1 x2 σ = wg_let (x2 + (1 : Int32)) (q_X12_goesBy_238__1 k175 x1 σ) := rfl
def q_X12_goesBy_246__4 (n : Nat) (x1 : Int32) (s3 : wg_M) (v4 : Int32) : Option (Int32 × wg_M) := f_X12_goesBy_246  n 0 x1 v4 s3
def q_X12_goesBy_246__3 (n : Nat) (x1 : Int32) (x2 : Int32) (_u3 : Int32) (s3 : wg_M) : Option (Int32 × wg_M) := wg_let (x2 + (1 : Int32)) (q_X12_goesBy_246__4 n x1 s3)
def q_X12_goesBy_246__2 (x1 : Int32) (s2 : wg_M) : Option (Int32 × wg_M) := some (x1, s2)
def q_X12_goesBy_246__1 (x1 : Int32) (σ : wg_M) (v1 : Int32) : Option (Int32 × wg_M) := wg_sa 295 σ 1 (0 : Int32) (v1 + (1 : Int32)) (q_X12_goesBy_246__2 x1)
theorem e_X12_goesBy_246__1 (x1 : Int32) (σ : wg_M) (v1 : Int32) : q_X12_goesBy_246__1 x1 σ v1 = wg_sa 295 σ 1 (0 : Int32) (v1 + (1 : Int32)) (q_X12_goesBy_246__2 x1) := rfl
theorem e_X12_goesBy_246__2 (x1 : Int32) (s2 : wg_M) : q_X12_goesBy_246__2 x1 s2 = some (x1, s2) := rfl
theorem e_X12_goesBy_246__3 (n : Nat) (x1 : Int32) (x2 : Int32) (_u3 : Int32) (s3 : wg_M) : q_X12_goesBy_246__3 n x1 x2 _u3 s3 = wg_let (x2 + (1 : Int32)) (q_X12_goesBy_246__4 n x1 s3) := rfl
theorem e_X12_goesBy_246__4 (n : Nat) (x1 : Int32) (s3 : wg_M) (v4 : Int32) : q_X12_goesBy_246__4 n x1 s3 v4 = f_X12_goesBy_246  n 0 x1 v4 s3 := rfl
theorem e_X12_goesBy_246 (n : Nat) (x1 : Int32) (x2 : Int32) (σ : wg_M) : f_X12_goesBy_246 (n + 1) 0 x1 x2 σ = if (σ 0 6) ≤ x2 then (wg_ga 295 (σ 1) (0 : Int32) (q_X12_goesBy_246__1 x1 σ)) else (wg_bd (f_X12_wears 0 x2 σ) (q_X12_goesBy_246__3 n x1 x2)) := by
  rw [f_X12_goesBy_246]
  simp only [sm_n1, sm_r0_1]
  rfl
def q_X12_goesBy_175__7 (n : Nat) (x2 : Int32) (s9 : wg_M) (v10 : Int32) : Option (Int32 × wg_M) := f_X12_goesBy_238 (f_X12_goesBy_175  n) 0 v10 x2 s9
def q_X12_goesBy_175__6 (n : Nat) (x1 : Int32) (x2 : Int32) (_u6 : Int32) (s9 : wg_M) : Option (Int32 × wg_M) := wg_let (x1 + (1 : Int32)) (q_X12_goesBy_175__7 n x2 s9)
def q_X12_goesBy_175__5 (n : Nat) (x1 : Int32) (x2 : Int32) (v7 : Int32) (s8 : wg_M) : Option (Int32 × wg_M) := if v7 = 0 then (f_X12_goesBy_238 (f_X12_goesBy_175  n) 0 x1 x2 s8) else (wg_bd (f_X12_dies 0 x2 s8) (q_X12_goesBy_175__6 n x1 x2))
def q_X12_goesBy_175__4 (n : Nat) (x1 : Int32) (x2 : Int32) (s6 : wg_M) : Option (Int32 × wg_M) := wg_bd (f_X12_isEnding 0 x2 s6) (q_X12_goesBy_175__5 n x1 x2)
def q_X12_goesBy_175__3 (n : Nat) (x1 : Int32) (x2 : Int32) (v4 : Int32) (s5 : wg_M) : Option (Int32 × wg_M) := wg_sa 295 s5 1 ((3 : Int32) + x2) v4 (q_X12_goesBy_175__4 n x1 x2)
def q_X12_goesBy_175__2 (n : Nat) (x1 : Int32) (x2 : Int32) (s2 : wg_M) (v3 : Int32) : Option (Int32 × wg_M) := wg_bd (f_X12_lesser 0 (120 : Int32) (v3 + (1 : Int32)) s2) (q_X12_goesBy_175__3 n x1 x2)
def q_X12_goesBy_175__1 (n : Nat) (x1 : Int32) (x2 : Int32) (v1 : Int32) (s2 : wg_M) : Option (Int32 × wg_M) := if v1 = 0 then (f_X12_goesBy_238 (f_X12_goesBy_175  n) 0 x1 x2 s2) else (wg_ga 295 (s2 1) ((3 : Int32) + x2) (q_X12_goesBy_175__2 n x1 x2 s2))
theorem e_X12_goesBy_175__1 (n : Nat) (x1 : Int32) (x2 : Int32) (v1 : Int32) (s2 : wg_M) : q_X12_goesBy_175__1 n x1 x2 v1 s2 = if v1 = 0 then (f_X12_goesBy_238 (f_X12_goesBy_175  n) 0 x1 x2 s2) else (wg_ga 295 (s2 1) ((3 : Int32) + x2) (q_X12_goesBy_175__2 n x1 x2 s2)) := rfl
theorem e_X12_goesBy_175__2 (n : Nat) (x1 : Int32) (x2 : Int32) (s2 : wg_M) (v3 : Int32) : q_X12_goesBy_175__2 n x1 x2 s2 v3 = wg_bd (f_X12_lesser 0 (120 : Int32) (v3 + (1 : Int32)) s2) (q_X12_goesBy_175__3 n x1 x2) := rfl
theorem e_X12_goesBy_175__3 (n : Nat) (x1 : Int32) (x2 : Int32) (v4 : Int32) (s5 : wg_M) : q_X12_goesBy_175__3 n x1 x2 v4 s5 = wg_sa 295 s5 1 ((3 : Int32) + x2) v4 (q_X12_goesBy_175__4 n x1 x2) := rfl
theorem e_X12_goesBy_175__4 (n : Nat) (x1 : Int32) (x2 : Int32) (s6 : wg_M) : q_X12_goesBy_175__4 n x1 x2 s6 = wg_bd (f_X12_isEnding 0 x2 s6) (q_X12_goesBy_175__5 n x1 x2) := rfl
theorem e_X12_goesBy_175__5 (n : Nat) (x1 : Int32) (x2 : Int32) (v7 : Int32) (s8 : wg_M) : q_X12_goesBy_175__5 n x1 x2 v7 s8 = if v7 = 0 then (f_X12_goesBy_238 (f_X12_goesBy_175  n) 0 x1 x2 s8) else (wg_bd (f_X12_dies 0 x2 s8) (q_X12_goesBy_175__6 n x1 x2)) := rfl
theorem e_X12_goesBy_175__6 (n : Nat) (x1 : Int32) (x2 : Int32) (_u6 : Int32) (s9 : wg_M) : q_X12_goesBy_175__6 n x1 x2 _u6 s9 = wg_let (x1 + (1 : Int32)) (q_X12_goesBy_175__7 n x2 s9) := rfl
theorem e_X12_goesBy_175__7 (n : Nat) (x2 : Int32) (s9 : wg_M) (v10 : Int32) : q_X12_goesBy_175__7 n x2 s9 v10 = f_X12_goesBy_238 (f_X12_goesBy_175  n) 0 v10 x2 s9 := rfl
theorem e_X12_goesBy_175 (n : Nat) (x1 : Int32) (x2 : Int32) (σ : wg_M) : f_X12_goesBy_175 (n + 1) 0 x1 x2 σ = if (σ 0 7) ≤ x2 then (f_X12_goesBy_246  wg_N 0 x1 (0 : Int32) σ) else (wg_bd (f_X12_isAlive 0 x2 σ) (q_X12_goesBy_175__1 n x1 x2)) := by
  rw [f_X12_goesBy_175]
  simp only [sm_n1, sm_r0_1]
  rfl
def q_X12_goesBy_95__8 (n : Nat) (x1 : Int32) (v9 : Int32) (s10 : wg_M) : Option (Int32 × wg_M) := f_X12_goesBy_164 (f_X12_goesBy_95  n) 0 x1 s10
def q_X12_goesBy_95__7 (n : Nat) (x1 : Int32) (s6 : wg_M) (v7 : Int32) (v8 : Int32) : Option (Int32 × wg_M) := wg_bd (f_X12_judgesCase 0 v7 v8 s6) (q_X12_goesBy_95__8 n x1)
def q_X12_goesBy_95__6 (n : Nat) (x1 : Int32) (s6 : wg_M) (v7 : Int32) : Option (Int32 × wg_M) := wg_ga 96 (s6 19) (x1 + (2 : Int32)) (q_X12_goesBy_95__7 n x1 s6 v7)
def q_X12_goesBy_95__5 (n : Nat) (x1 : Int32) (v5 : Int32) (s6 : wg_M) : Option (Int32 × wg_M) := if v5 = 0 then (f_X12_goesBy_164 (f_X12_goesBy_95  n) 0 x1 s6) else (wg_ga 96 (s6 19) (x1 + (1 : Int32)) (q_X12_goesBy_95__6 n x1 s6))
def q_X12_goesBy_95__4 (n : Nat) (x1 : Int32) (σ : wg_M) (v3 : Int32) (v4 : Int32) : Option (Int32 × wg_M) := wg_bd (f_X12_canTry 0 v3 v4 σ) (q_X12_goesBy_95__5 n x1)
def q_X12_goesBy_95__3 (n : Nat) (x1 : Int32) (σ : wg_M) (v3 : Int32) : Option (Int32 × wg_M) := wg_ga 96 (σ 19) (x1 + (2 : Int32)) (q_X12_goesBy_95__4 n x1 σ v3)
def q_X12_goesBy_95__2 (n : Nat) (x1 : Int32) (σ : wg_M) (v1 : Int32) (v2 : Int32) : Option (Int32 × wg_M) := if v1 = v2 then (wg_ga 96 (σ 19) (x1 + (1 : Int32)) (q_X12_goesBy_95__3 n x1 σ)) else (f_X12_goesBy_164 (f_X12_goesBy_95  n) 0 x1 σ)
def q_X12_goesBy_95__1 (n : Nat) (x1 : Int32) (σ : wg_M) (v1 : Int32) : Option (Int32 × wg_M) := wg_ga 295 (σ 1) (0 : Int32) (q_X12_goesBy_95__2 n x1 σ v1)
theorem e_X12_goesBy_95__1 (n : Nat) (x1 : Int32) (σ : wg_M) (v1 : Int32) : q_X12_goesBy_95__1 n x1 σ v1 = wg_ga 295 (σ 1) (0 : Int32) (q_X12_goesBy_95__2 n x1 σ v1) := rfl
theorem e_X12_goesBy_95__2 (n : Nat) (x1 : Int32) (σ : wg_M) (v1 : Int32) (v2 : Int32) : q_X12_goesBy_95__2 n x1 σ v1 v2 = if v1 = v2 then (wg_ga 96 (σ 19) (x1 + (1 : Int32)) (q_X12_goesBy_95__3 n x1 σ)) else (f_X12_goesBy_164 (f_X12_goesBy_95  n) 0 x1 σ) := rfl
theorem e_X12_goesBy_95__3 (n : Nat) (x1 : Int32) (σ : wg_M) (v3 : Int32) : q_X12_goesBy_95__3 n x1 σ v3 = wg_ga 96 (σ 19) (x1 + (2 : Int32)) (q_X12_goesBy_95__4 n x1 σ v3) := rfl
theorem e_X12_goesBy_95__4 (n : Nat) (x1 : Int32) (σ : wg_M) (v3 : Int32) (v4 : Int32) : q_X12_goesBy_95__4 n x1 σ v3 v4 = wg_bd (f_X12_canTry 0 v3 v4 σ) (q_X12_goesBy_95__5 n x1) := rfl
theorem e_X12_goesBy_95__5 (n : Nat) (x1 : Int32) (v5 : Int32) (s6 : wg_M) : q_X12_goesBy_95__5 n x1 v5 s6 = if v5 = 0 then (f_X12_goesBy_164 (f_X12_goesBy_95  n) 0 x1 s6) else (wg_ga 96 (s6 19) (x1 + (1 : Int32)) (q_X12_goesBy_95__6 n x1 s6)) := rfl
theorem e_X12_goesBy_95__6 (n : Nat) (x1 : Int32) (s6 : wg_M) (v7 : Int32) : q_X12_goesBy_95__6 n x1 s6 v7 = wg_ga 96 (s6 19) (x1 + (2 : Int32)) (q_X12_goesBy_95__7 n x1 s6 v7) := rfl
theorem e_X12_goesBy_95__7 (n : Nat) (x1 : Int32) (s6 : wg_M) (v7 : Int32) (v8 : Int32) : q_X12_goesBy_95__7 n x1 s6 v7 v8 = wg_bd (f_X12_judgesCase 0 v7 v8 s6) (q_X12_goesBy_95__8 n x1) := rfl
theorem e_X12_goesBy_95__8 (n : Nat) (x1 : Int32) (v9 : Int32) (s10 : wg_M) : q_X12_goesBy_95__8 n x1 v9 s10 = f_X12_goesBy_164 (f_X12_goesBy_95  n) 0 x1 s10 := rfl
theorem e_X12_goesBy_95 (n : Nat) (x1 : Int32) (σ : wg_M) : f_X12_goesBy_95 (n + 1) 0 x1 σ = if ((3 : Int32) * (σ 0 37)) ≤ x1 then (f_X12_goesBy_175  wg_N 0 (0 : Int32) (0 : Int32) σ) else (wg_ga 96 (σ 19) x1 (q_X12_goesBy_95__1 n x1 σ)) := by
  rw [f_X12_goesBy_95]
  simp only [sm_n1, sm_n19, sm_r0_1, sm_r0_38]
  rfl
def q_X12_goesBy_2__10 (n : Nat) (x1 : Int32) (_u10 : Int32) (s11 : wg_M) : Option (Int32 × wg_M) := f_X12_goesBy_86 (f_X12_goesBy_2  n) 0 x1 s11
def q_X12_goesBy_2__9 (n : Nat) (x1 : Int32) (s7 : wg_M) (v8 : Int32) (v9 : Int32) (v10 : Int32) : Option (Int32 × wg_M) := wg_bd (f_X12_acts 0 v8 v9 v10 s7) (q_X12_goesBy_2__10 n x1)
def q_X12_goesBy_2__8 (n : Nat) (x1 : Int32) (s7 : wg_M) (v8 : Int32) (v9 : Int32) : Option (Int32 × wg_M) := wg_ga 128 (s7 20) (x1 + (3 : Int32)) (q_X12_goesBy_2__9 n x1 s7 v8 v9)
def q_X12_goesBy_2__7 (n : Nat) (x1 : Int32) (s7 : wg_M) (v8 : Int32) : Option (Int32 × wg_M) := wg_ga 128 (s7 20) (x1 + (2 : Int32)) (q_X12_goesBy_2__8 n x1 s7 v8)
def q_X12_goesBy_2__6 (n : Nat) (x1 : Int32) (v6 : Int32) (s7 : wg_M) : Option (Int32 × wg_M) := if v6 = 0 then (f_X12_goesBy_86 (f_X12_goesBy_2  n) 0 x1 s7) else (wg_ga 128 (s7 20) (x1 + (1 : Int32)) (q_X12_goesBy_2__7 n x1 s7))
def q_X12_goesBy_2__5 (n : Nat) (x1 : Int32) (σ : wg_M) (v3 : Int32) (v4 : Int32) (v5 : Int32) : Option (Int32 × wg_M) := wg_bd (f_X12_canAct 0 v3 v4 v5 σ) (q_X12_goesBy_2__6 n x1)
def q_X12_goesBy_2__4 (n : Nat) (x1 : Int32) (σ : wg_M) (v3 : Int32) (v4 : Int32) : Option (Int32 × wg_M) := wg_ga 128 (σ 20) (x1 + (3 : Int32)) (q_X12_goesBy_2__5 n x1 σ v3 v4)
def q_X12_goesBy_2__3 (n : Nat) (x1 : Int32) (σ : wg_M) (v3 : Int32) : Option (Int32 × wg_M) := wg_ga 128 (σ 20) (x1 + (2 : Int32)) (q_X12_goesBy_2__4 n x1 σ v3)
def q_X12_goesBy_2__2 (n : Nat) (x1 : Int32) (σ : wg_M) (v1 : Int32) (v2 : Int32) : Option (Int32 × wg_M) := if v1 = v2 then (wg_ga 128 (σ 20) (x1 + (1 : Int32)) (q_X12_goesBy_2__3 n x1 σ)) else (f_X12_goesBy_86 (f_X12_goesBy_2  n) 0 x1 σ)
def q_X12_goesBy_2__1 (n : Nat) (x1 : Int32) (σ : wg_M) (v1 : Int32) : Option (Int32 × wg_M) := wg_ga 295 (σ 1) (0 : Int32) (q_X12_goesBy_2__2 n x1 σ v1)
theorem e_X12_goesBy_2__1 (n : Nat) (x1 : Int32) (σ : wg_M) (v1 : Int32) : q_X12_goesBy_2__1 n x1 σ v1 = wg_ga 295 (σ 1) (0 : Int32) (q_X12_goesBy_2__2 n x1 σ v1) := rfl
theorem e_X12_goesBy_2__2 (n : Nat) (x1 : Int32) (σ : wg_M) (v1 : Int32) (v2 : Int32) : q_X12_goesBy_2__2 n x1 σ v1 v2 = if v1 = v2 then (wg_ga 128 (σ 20) (x1 + (1 : Int32)) (q_X12_goesBy_2__3 n x1 σ)) else (f_X12_goesBy_86 (f_X12_goesBy_2  n) 0 x1 σ) := rfl
theorem e_X12_goesBy_2__3 (n : Nat) (x1 : Int32) (σ : wg_M) (v3 : Int32) : q_X12_goesBy_2__3 n x1 σ v3 = wg_ga 128 (σ 20) (x1 + (2 : Int32)) (q_X12_goesBy_2__4 n x1 σ v3) := rfl
theorem e_X12_goesBy_2__4 (n : Nat) (x1 : Int32) (σ : wg_M) (v3 : Int32) (v4 : Int32) : q_X12_goesBy_2__4 n x1 σ v3 v4 = wg_ga 128 (σ 20) (x1 + (3 : Int32)) (q_X12_goesBy_2__5 n x1 σ v3 v4) := rfl
theorem e_X12_goesBy_2__5 (n : Nat) (x1 : Int32) (σ : wg_M) (v3 : Int32) (v4 : Int32) (v5 : Int32) : q_X12_goesBy_2__5 n x1 σ v3 v4 v5 = wg_bd (f_X12_canAct 0 v3 v4 v5 σ) (q_X12_goesBy_2__6 n x1) := rfl
theorem e_X12_goesBy_2__6 (n : Nat) (x1 : Int32) (v6 : Int32) (s7 : wg_M) : q_X12_goesBy_2__6 n x1 v6 s7 = if v6 = 0 then (f_X12_goesBy_86 (f_X12_goesBy_2  n) 0 x1 s7) else (wg_ga 128 (s7 20) (x1 + (1 : Int32)) (q_X12_goesBy_2__7 n x1 s7)) := rfl
theorem e_X12_goesBy_2__7 (n : Nat) (x1 : Int32) (s7 : wg_M) (v8 : Int32) : q_X12_goesBy_2__7 n x1 s7 v8 = wg_ga 128 (s7 20) (x1 + (2 : Int32)) (q_X12_goesBy_2__8 n x1 s7 v8) := rfl
theorem e_X12_goesBy_2__8 (n : Nat) (x1 : Int32) (s7 : wg_M) (v8 : Int32) (v9 : Int32) : q_X12_goesBy_2__8 n x1 s7 v8 v9 = wg_ga 128 (s7 20) (x1 + (3 : Int32)) (q_X12_goesBy_2__9 n x1 s7 v8 v9) := rfl
theorem e_X12_goesBy_2__9 (n : Nat) (x1 : Int32) (s7 : wg_M) (v8 : Int32) (v9 : Int32) (v10 : Int32) : q_X12_goesBy_2__9 n x1 s7 v8 v9 v10 = wg_bd (f_X12_acts 0 v8 v9 v10 s7) (q_X12_goesBy_2__10 n x1) := rfl
theorem e_X12_goesBy_2__10 (n : Nat) (x1 : Int32) (_u10 : Int32) (s11 : wg_M) : q_X12_goesBy_2__10 n x1 _u10 s11 = f_X12_goesBy_86 (f_X12_goesBy_2  n) 0 x1 s11 := rfl
theorem e_X12_goesBy_2 (n : Nat) (x1 : Int32) (σ : wg_M) : f_X12_goesBy_2 (n + 1) 0 x1 σ = if ((4 : Int32) * (σ 0 39)) ≤ x1 then (f_X12_goesBy_95  wg_N 0 (0 : Int32) σ) else (wg_ga 128 (σ 20) x1 (q_X12_goesBy_2__1 n x1 σ)) := by
  rw [f_X12_goesBy_2]
  simp only [sm_n1, sm_n20, sm_r0_1, sm_r0_40]
  rfl
theorem e_X12_goesBy (σ : wg_M) : f_X12_goesBy 0 σ = f_X12_goesBy_2  wg_N 0 (0 : Int32) σ := rfl
def q_X12_years_36__4 (n : Nat) (x1 : Int32) (s3 : wg_M) (v4 : Int32) (v5 : Int32) : Option (Int32 × wg_M) := f_X12_years_36  n 0 x1 v4 v5 s3
def q_X12_years_36__3 (n : Nat) (x1 : Int32) (x3 : Int32) (s3 : wg_M) (v4 : Int32) : Option (Int32 × wg_M) := wg_let (x3 + (1 : Int32)) (q_X12_years_36__4 n x1 s3 v4)
def q_X12_years_36__2 (n : Nat) (x1 : Int32) (x2 : Int32) (x3 : Int32) (v2 : Int32) (s3 : wg_M) : Option (Int32 × wg_M) := wg_let (x2 + v2) (q_X12_years_36__3 n x1 x3 s3)
def q_X12_years_36__1 (n : Nat) (x1 : Int32) (x2 : Int32) (x3 : Int32) (_u1 : Int32) (s1 : wg_M) : Option (Int32 × wg_M) := wg_bd (f_X12_goesBy 0 s1) (q_X12_years_36__2 n x1 x2 x3)
theorem e_X12_years_36__1 (n : Nat) (x1 : Int32) (x2 : Int32) (x3 : Int32) (_u1 : Int32) (s1 : wg_M) : q_X12_years_36__1 n x1 x2 x3 _u1 s1 = wg_bd (f_X12_goesBy 0 s1) (q_X12_years_36__2 n x1 x2 x3) := rfl
theorem e_X12_years_36__2 (n : Nat) (x1 : Int32) (x2 : Int32) (x3 : Int32) (v2 : Int32) (s3 : wg_M) : q_X12_years_36__2 n x1 x2 x3 v2 s3 = wg_let (x2 + v2) (q_X12_years_36__3 n x1 x3 s3) := rfl
theorem e_X12_years_36__3 (n : Nat) (x1 : Int32) (x3 : Int32) (s3 : wg_M) (v4 : Int32) : q_X12_years_36__3 n x1 x3 s3 v4 = wg_let (x3 + (1 : Int32)) (q_X12_years_36__4 n x1 s3 v4) := rfl
theorem e_X12_years_36__4 (n : Nat) (x1 : Int32) (s3 : wg_M) (v4 : Int32) (v5 : Int32) : q_X12_years_36__4 n x1 s3 v4 v5 = f_X12_years_36  n 0 x1 v4 v5 s3 := rfl
theorem e_X12_years_36 (n : Nat) (x1 : Int32) (x2 : Int32) (x3 : Int32) (σ : wg_M) : f_X12_years_36 (n + 1) 0 x1 x2 x3 σ = if x1 ≤ x3 then (some (x2, σ)) else (wg_bd (f_X12_keepsAhead 0 σ) (q_X12_years_36__1 n x1 x2 x3)) := by
  rw [f_X12_years_36]
  rfl
def q_X12_years__3 (x1 : Int32) (s3 : wg_M) (v4 : Int32) : Option (Int32 × wg_M) := if (v4 + x1) ≤ (9999 : Int32) then (f_X12_years_36  wg_N 0 x1 (0 : Int32) (0 : Int32) s3) else (some ((-1 : Int32), s3))
def q_X12_years__2 (x1 : Int32) (v2 : Int32) (s3 : wg_M) : Option (Int32 × wg_M) := if v2 = 0 then (some ((-1 : Int32), s3)) else (wg_ga 295 (s3 1) (0 : Int32) (q_X12_years__3 x1 s3))
def q_X12_years__1 (x1 : Int32) (s1 : wg_M) : Option (Int32 × wg_M) := wg_bd (f_X12_isIn 0 x1 (1 : Int32) (60 : Int32) s1) (q_X12_years__2 x1)
theorem e_X12_years__1 (x1 : Int32) (s1 : wg_M) : q_X12_years__1 x1 s1 = wg_bd (f_X12_isIn 0 x1 (1 : Int32) (60 : Int32) s1) (q_X12_years__2 x1) := rfl
theorem e_X12_years__2 (x1 : Int32) (v2 : Int32) (s3 : wg_M) : q_X12_years__2 x1 v2 s3 = if v2 = 0 then (some ((-1 : Int32), s3)) else (wg_ga 295 (s3 1) (0 : Int32) (q_X12_years__3 x1 s3)) := rfl
theorem e_X12_years__3 (x1 : Int32) (s3 : wg_M) (v4 : Int32) : q_X12_years__3 x1 s3 v4 = if (v4 + x1) ≤ (9999 : Int32) then (f_X12_years_36  wg_N 0 x1 (0 : Int32) (0 : Int32) s3) else (some ((-1 : Int32), s3)) := rfl
theorem e_X12_years (x1 : Int32) (σ : wg_M) : f_X12_years 0 x1 σ = wg_st σ 0 0 (0 : Int32) (q_X12_years__1 x1) := by
  unfold f_X12_years
  simp only [sm_n1, sm_r0_1]
  rfl
def q_X12_of__9 (v4 : Int32) (s5 : wg_M) : Option (Int32 × wg_M) := some (v4, s5)
def q_X12_of__8 (s3 : wg_M) (v6 : Int32) : Option (Int32 × wg_M) := some (v6, s3)
def q_X12_of__7 (v7 : Int32) (s8 : wg_M) : Option (Int32 × wg_M) := some (v7, s8)
def q_X12_of__6 (s3 : wg_M) (v9 : Int32) : Option (Int32 × wg_M) := some (v9, s3)
def q_X12_of__5 (s3 : wg_M) (v10 : Int32) : Option (Int32 × wg_M) := some (v10, s3)
def q_X12_of__4 (s3 : wg_M) (v11 : Int32) : Option (Int32 × wg_M) := some (v11, s3)
def q_X12_of__3 (s3 : wg_M) (v12 : Int32) : Option (Int32 × wg_M) := some (v12, s3)
def q_X12_of__2 (x1 : Int32) (x2 : Int32) (v2 : Int32) (s3 : wg_M) : Option (Int32 × wg_M) := if v2 = 0 then (some ((-2 : Int32), s3)) else (if x2 = 0 then (wg_ga 8 (s3 4) x1 (q_X12_of__3 s3)) else (if x2 = (1 : Int32) then (wg_ga 295 (s3 1) ((43 : Int32) + x1) (q_X12_of__4 s3)) else (if x2 = (2 : Int32) then (wg_ga 295 (s3 1) ((51 : Int32) + x1) (q_X12_of__5 s3)) else (if x2 = (3 : Int32) then (wg_ga 295 (s3 1) ((59 : Int32) + x1) (q_X12_of__6 s3)) else (if x2 = (4 : Int32) then (wg_bd (f_X12_wearerOf 0 x1 s3) q_X12_of__7) else (if x2 = (5 : Int32) then (wg_ga 295 (s3 1) ((67 : Int32) + x1) (q_X12_of__8 s3)) else (if x2 = (6 : Int32) then (wg_bd (f_X12_mothOf 0 x1 s3) q_X12_of__9) else (some ((-2 : Int32), s3)))))))))
def q_X12_of__1 (x1 : Int32) (x2 : Int32) (s1 : wg_M) : Option (Int32 × wg_M) := wg_bd (f_X12_isWig 0 x1 s1) (q_X12_of__2 x1 x2)
theorem e_X12_of__1 (x1 : Int32) (x2 : Int32) (s1 : wg_M) : q_X12_of__1 x1 x2 s1 = wg_bd (f_X12_isWig 0 x1 s1) (q_X12_of__2 x1 x2) := rfl
theorem e_X12_of__2 (x1 : Int32) (x2 : Int32) (v2 : Int32) (s3 : wg_M) : q_X12_of__2 x1 x2 v2 s3 = if v2 = 0 then (some ((-2 : Int32), s3)) else (if x2 = 0 then (wg_ga 8 (s3 4) x1 (q_X12_of__3 s3)) else (if x2 = (1 : Int32) then (wg_ga 295 (s3 1) ((43 : Int32) + x1) (q_X12_of__4 s3)) else (if x2 = (2 : Int32) then (wg_ga 295 (s3 1) ((51 : Int32) + x1) (q_X12_of__5 s3)) else (if x2 = (3 : Int32) then (wg_ga 295 (s3 1) ((59 : Int32) + x1) (q_X12_of__6 s3)) else (if x2 = (4 : Int32) then (wg_bd (f_X12_wearerOf 0 x1 s3) q_X12_of__7) else (if x2 = (5 : Int32) then (wg_ga 295 (s3 1) ((67 : Int32) + x1) (q_X12_of__8 s3)) else (if x2 = (6 : Int32) then (wg_bd (f_X12_mothOf 0 x1 s3) q_X12_of__9) else (some ((-2 : Int32), s3))))))))) := rfl
theorem e_X12_of__3 (s3 : wg_M) (v12 : Int32) : q_X12_of__3 s3 v12 = some (v12, s3) := rfl
theorem e_X12_of__4 (s3 : wg_M) (v11 : Int32) : q_X12_of__4 s3 v11 = some (v11, s3) := rfl
theorem e_X12_of__5 (s3 : wg_M) (v10 : Int32) : q_X12_of__5 s3 v10 = some (v10, s3) := rfl
theorem e_X12_of__6 (s3 : wg_M) (v9 : Int32) : q_X12_of__6 s3 v9 = some (v9, s3) := rfl
theorem e_X12_of__7 (v7 : Int32) (s8 : wg_M) : q_X12_of__7 v7 s8 = some (v7, s8) := rfl
theorem e_X12_of__8 (s3 : wg_M) (v6 : Int32) : q_X12_of__8 s3 v6 = some (v6, s3) := rfl
theorem e_X12_of__9 (v4 : Int32) (s5 : wg_M) : q_X12_of__9 v4 s5 = some (v4, s5) := rfl
theorem e_X12_of (x1 : Int32) (x2 : Int32) (σ : wg_M) : f_X12_of 0 x1 x2 σ = wg_st σ 0 0 (0 : Int32) (q_X12_of__1 x1 x2) := by
  unfold f_X12_of
  simp only [sm_n1, sm_n4, sm_r0_1, sm_r0_9]
  rfl
def q_X12_ruleOf__9 (v14 : Int32) (s15 : wg_M) : Option (Int32 × wg_M) := some (v14, s15)
def q_X12_ruleOf__8 (s12 : wg_M) (v13 : Int32) : Option (Int32 × wg_M) := some (v13, s12)
def q_X12_ruleOf__7 (x3 : Int32) (v11 : Int32) (s12 : wg_M) : Option (Int32 × wg_M) := wg_ga 295 (s12 1) (v11 + x3) (q_X12_ruleOf__8 s12)
def q_X12_ruleOf__6 (x1 : Int32) (x2 : Int32) (x3 : Int32) (v9 : Int32) (s10 : wg_M) : Option (Int32 × wg_M) := if v9 = 0 then (some ((-100 : Int32), s10)) else (wg_bd (f_X12_ruleAt 0 x1 x2 s10) (q_X12_ruleOf__7 x3))
def q_X12_ruleOf__5 (x1 : Int32) (x2 : Int32) (x3 : Int32) (v7 : Int32) (s8 : wg_M) : Option (Int32 × wg_M) := if v7 = 0 then (wg_bd (f_X12_isIn 0 x3 (0 : Int32) (2 : Int32) s8) (q_X12_ruleOf__6 x1 x2 x3)) else (wg_bd (f_X12_countsOf 0 x1 x2 (x3 - (10 : Int32)) s8) q_X12_ruleOf__9)
def q_X12_ruleOf__4 (x1 : Int32) (x2 : Int32) (x3 : Int32) (v5 : Int32) (s6 : wg_M) : Option (Int32 × wg_M) := if v5 = 0 then (some ((-100 : Int32), s6)) else (wg_bd (f_X12_isIn 0 x3 (10 : Int32) ((9 : Int32) + (s6 0 7)) s6) (q_X12_ruleOf__5 x1 x2 x3))
def q_X12_ruleOf__3 (x1 : Int32) (x2 : Int32) (x3 : Int32) (s3 : wg_M) (v4 : Int32) : Option (Int32 × wg_M) := wg_bd (f_X12_isIn 0 x2 (0 : Int32) (v4 - (1 : Int32)) s3) (q_X12_ruleOf__4 x1 x2 x3)
def q_X12_ruleOf__2 (x1 : Int32) (x2 : Int32) (x3 : Int32) (v2 : Int32) (s3 : wg_M) : Option (Int32 × wg_M) := if v2 = 0 then (some ((-100 : Int32), s3)) else (wg_ga 295 (s3 1) ((67 : Int32) + x1) (q_X12_ruleOf__3 x1 x2 x3 s3))
def q_X12_ruleOf__1 (x1 : Int32) (x2 : Int32) (x3 : Int32) (s1 : wg_M) : Option (Int32 × wg_M) := wg_bd (f_X12_isWig 0 x1 s1) (q_X12_ruleOf__2 x1 x2 x3)
theorem e_X12_ruleOf__1 (x1 : Int32) (x2 : Int32) (x3 : Int32) (s1 : wg_M) : q_X12_ruleOf__1 x1 x2 x3 s1 = wg_bd (f_X12_isWig 0 x1 s1) (q_X12_ruleOf__2 x1 x2 x3) := rfl
theorem e_X12_ruleOf__2 (x1 : Int32) (x2 : Int32) (x3 : Int32) (v2 : Int32) (s3 : wg_M) : q_X12_ruleOf__2 x1 x2 x3 v2 s3 = if v2 = 0 then (some ((-100 : Int32), s3)) else (wg_ga 295 (s3 1) ((67 : Int32) + x1) (q_X12_ruleOf__3 x1 x2 x3 s3)) := rfl
theorem e_X12_ruleOf__3 (x1 : Int32) (x2 : Int32) (x3 : Int32) (s3 : wg_M) (v4 : Int32) : q_X12_ruleOf__3 x1 x2 x3 s3 v4 = wg_bd (f_X12_isIn 0 x2 (0 : Int32) (v4 - (1 : Int32)) s3) (q_X12_ruleOf__4 x1 x2 x3) := rfl
theorem e_X12_ruleOf__4 (x1 : Int32) (x2 : Int32) (x3 : Int32) (v5 : Int32) (s6 : wg_M) : q_X12_ruleOf__4 x1 x2 x3 v5 s6 = if v5 = 0 then (some ((-100 : Int32), s6)) else (wg_bd (f_X12_isIn 0 x3 (10 : Int32) ((9 : Int32) + (s6 0 7)) s6) (q_X12_ruleOf__5 x1 x2 x3)) := rfl
theorem e_X12_ruleOf__5 (x1 : Int32) (x2 : Int32) (x3 : Int32) (v7 : Int32) (s8 : wg_M) : q_X12_ruleOf__5 x1 x2 x3 v7 s8 = if v7 = 0 then (wg_bd (f_X12_isIn 0 x3 (0 : Int32) (2 : Int32) s8) (q_X12_ruleOf__6 x1 x2 x3)) else (wg_bd (f_X12_countsOf 0 x1 x2 (x3 - (10 : Int32)) s8) q_X12_ruleOf__9) := rfl
theorem e_X12_ruleOf__6 (x1 : Int32) (x2 : Int32) (x3 : Int32) (v9 : Int32) (s10 : wg_M) : q_X12_ruleOf__6 x1 x2 x3 v9 s10 = if v9 = 0 then (some ((-100 : Int32), s10)) else (wg_bd (f_X12_ruleAt 0 x1 x2 s10) (q_X12_ruleOf__7 x3)) := rfl
theorem e_X12_ruleOf__7 (x3 : Int32) (v11 : Int32) (s12 : wg_M) : q_X12_ruleOf__7 x3 v11 s12 = wg_ga 295 (s12 1) (v11 + x3) (q_X12_ruleOf__8 s12) := rfl
theorem e_X12_ruleOf__8 (s12 : wg_M) (v13 : Int32) : q_X12_ruleOf__8 s12 v13 = some (v13, s12) := rfl
theorem e_X12_ruleOf__9 (v14 : Int32) (s15 : wg_M) : q_X12_ruleOf__9 v14 s15 = some (v14, s15) := rfl
theorem e_X12_ruleOf (x1 : Int32) (x2 : Int32) (x3 : Int32) (σ : wg_M) : f_X12_ruleOf 0 x1 x2 x3 σ = wg_st σ 0 0 (0 : Int32) (q_X12_ruleOf__1 x1 x2 x3) := by
  unfold f_X12_ruleOf
  simp only [sm_n1, sm_r0_1]
  rfl
def q_X12_who__8 (v4 : Int32) (s5 : wg_M) : Option (Int32 × wg_M) := some (v4, s5)
def q_X12_who__7 (s3 : wg_M) (v6 : Int32) : Option (Int32 × wg_M) := some (v6, s3)
def q_X12_who__6 (s3 : wg_M) (v7 : Int32) : Option (Int32 × wg_M) := some (v7, s3)
def q_X12_who__5 (v8 : Int32) (s9 : wg_M) : Option (Int32 × wg_M) := some (v8, s9)
def q_X12_who__4 (s3 : wg_M) (v10 : Int32) : Option (Int32 × wg_M) := some (v10, s3)
def q_X12_who__3 (s3 : wg_M) (v11 : Int32) : Option (Int32 × wg_M) := some (v11, s3)
def q_X12_who__2 (x1 : Int32) (x2 : Int32) (v2 : Int32) (s3 : wg_M) : Option (Int32 × wg_M) := if v2 = 0 then (some ((-100 : Int32), s3)) else (if x2 = 0 then (wg_ga 295 (s3 1) ((3 : Int32) + x1) (q_X12_who__3 s3)) else (if x2 = (1 : Int32) then (wg_ga 10 (s3 5) x1 (q_X12_who__4 s3)) else (if x2 = (2 : Int32) then (wg_bd (f_X12_wigOf 0 x1 s3) q_X12_who__5) else (if x2 = (3 : Int32) then (wg_ga 295 (s3 1) ((23 : Int32) + x1) (q_X12_who__6 s3)) else (if x2 = (4 : Int32) then (wg_ga 295 (s3 1) ((33 : Int32) + x1) (q_X12_who__7 s3)) else (if x2 = (5 : Int32) then (wg_bd (f_X12_diesOf 0 x1 s3) q_X12_who__8) else (some ((-100 : Int32), s3))))))))
def q_X12_who__1 (x1 : Int32) (x2 : Int32) (s1 : wg_M) : Option (Int32 × wg_M) := wg_bd (f_X12_isJudge 0 x1 s1) (q_X12_who__2 x1 x2)
theorem e_X12_who__1 (x1 : Int32) (x2 : Int32) (s1 : wg_M) : q_X12_who__1 x1 x2 s1 = wg_bd (f_X12_isJudge 0 x1 s1) (q_X12_who__2 x1 x2) := rfl
theorem e_X12_who__2 (x1 : Int32) (x2 : Int32) (v2 : Int32) (s3 : wg_M) : q_X12_who__2 x1 x2 v2 s3 = if v2 = 0 then (some ((-100 : Int32), s3)) else (if x2 = 0 then (wg_ga 295 (s3 1) ((3 : Int32) + x1) (q_X12_who__3 s3)) else (if x2 = (1 : Int32) then (wg_ga 10 (s3 5) x1 (q_X12_who__4 s3)) else (if x2 = (2 : Int32) then (wg_bd (f_X12_wigOf 0 x1 s3) q_X12_who__5) else (if x2 = (3 : Int32) then (wg_ga 295 (s3 1) ((23 : Int32) + x1) (q_X12_who__6 s3)) else (if x2 = (4 : Int32) then (wg_ga 295 (s3 1) ((33 : Int32) + x1) (q_X12_who__7 s3)) else (if x2 = (5 : Int32) then (wg_bd (f_X12_diesOf 0 x1 s3) q_X12_who__8) else (some ((-100 : Int32), s3)))))))) := rfl
theorem e_X12_who__3 (s3 : wg_M) (v11 : Int32) : q_X12_who__3 s3 v11 = some (v11, s3) := rfl
theorem e_X12_who__4 (s3 : wg_M) (v10 : Int32) : q_X12_who__4 s3 v10 = some (v10, s3) := rfl
theorem e_X12_who__5 (v8 : Int32) (s9 : wg_M) : q_X12_who__5 v8 s9 = some (v8, s9) := rfl
theorem e_X12_who__6 (s3 : wg_M) (v7 : Int32) : q_X12_who__6 s3 v7 = some (v7, s3) := rfl
theorem e_X12_who__7 (s3 : wg_M) (v6 : Int32) : q_X12_who__7 s3 v6 = some (v6, s3) := rfl
theorem e_X12_who__8 (v4 : Int32) (s5 : wg_M) : q_X12_who__8 v4 s5 = some (v4, s5) := rfl
theorem e_X12_who (x1 : Int32) (x2 : Int32) (σ : wg_M) : f_X12_who 0 x1 x2 σ = wg_st σ 0 0 (0 : Int32) (q_X12_who__1 x1 x2) := by
  unfold f_X12_who
  simp only [sm_n1, sm_n5, sm_r0_1, sm_r0_10]
  rfl
def q_X12_trialOf__7 (s3 : wg_M) (v4 : Int32) : Option (Int32 × wg_M) := some (v4 - (1 : Int32), s3)
def q_X12_trialOf__6 (s3 : wg_M) (v6 : Int32) : Option (Int32 × wg_M) := some (v6 - (1000 : Int32), s3)
def q_X12_trialOf__5 (x1 : Int32) (s3 : wg_M) (v5 : Int32) : Option (Int32 × wg_M) := if v5 = 0 then (some ((-10000 : Int32), s3)) else (wg_ga 295 (s3 1) ((267 : Int32) + x1) (q_X12_trialOf__6 s3))
def q_X12_trialOf__4 (s3 : wg_M) (v7 : Int32) : Option (Int32 × wg_M) := some (v7, s3)
def q_X12_trialOf__3 (s3 : wg_M) (v8 : Int32) : Option (Int32 × wg_M) := some (v8, s3)
def q_X12_trialOf__2 (x1 : Int32) (x2 : Int32) (v2 : Int32) (s3 : wg_M) : Option (Int32 × wg_M) := if v2 = 0 then (some ((-100000 : Int32), s3)) else (if x2 = 0 then (wg_ga 14 (s3 6) x1 (q_X12_trialOf__3 s3)) else (if x2 = (1 : Int32) then (wg_ga 14 (s3 7) x1 (q_X12_trialOf__4 s3)) else (if x2 = (2 : Int32) then (wg_ga 295 (s3 1) ((267 : Int32) + x1) (q_X12_trialOf__5 x1 s3)) else (if x2 = (3 : Int32) then (wg_ga 295 (s3 1) ((281 : Int32) + x1) (q_X12_trialOf__7 s3)) else (some ((-100000 : Int32), s3))))))
def q_X12_trialOf__1 (x1 : Int32) (x2 : Int32) (s1 : wg_M) : Option (Int32 × wg_M) := wg_bd (f_X12_isTrial 0 x1 s1) (q_X12_trialOf__2 x1 x2)
theorem e_X12_trialOf__1 (x1 : Int32) (x2 : Int32) (s1 : wg_M) : q_X12_trialOf__1 x1 x2 s1 = wg_bd (f_X12_isTrial 0 x1 s1) (q_X12_trialOf__2 x1 x2) := rfl
theorem e_X12_trialOf__2 (x1 : Int32) (x2 : Int32) (v2 : Int32) (s3 : wg_M) : q_X12_trialOf__2 x1 x2 v2 s3 = if v2 = 0 then (some ((-100000 : Int32), s3)) else (if x2 = 0 then (wg_ga 14 (s3 6) x1 (q_X12_trialOf__3 s3)) else (if x2 = (1 : Int32) then (wg_ga 14 (s3 7) x1 (q_X12_trialOf__4 s3)) else (if x2 = (2 : Int32) then (wg_ga 295 (s3 1) ((267 : Int32) + x1) (q_X12_trialOf__5 x1 s3)) else (if x2 = (3 : Int32) then (wg_ga 295 (s3 1) ((281 : Int32) + x1) (q_X12_trialOf__7 s3)) else (some ((-100000 : Int32), s3)))))) := rfl
theorem e_X12_trialOf__3 (s3 : wg_M) (v8 : Int32) : q_X12_trialOf__3 s3 v8 = some (v8, s3) := rfl
theorem e_X12_trialOf__4 (s3 : wg_M) (v7 : Int32) : q_X12_trialOf__4 s3 v7 = some (v7, s3) := rfl
theorem e_X12_trialOf__5 (x1 : Int32) (s3 : wg_M) (v5 : Int32) : q_X12_trialOf__5 x1 s3 v5 = if v5 = 0 then (some ((-10000 : Int32), s3)) else (wg_ga 295 (s3 1) ((267 : Int32) + x1) (q_X12_trialOf__6 s3)) := rfl
theorem e_X12_trialOf__6 (s3 : wg_M) (v6 : Int32) : q_X12_trialOf__6 s3 v6 = some (v6 - (1000 : Int32), s3) := rfl
theorem e_X12_trialOf__7 (s3 : wg_M) (v4 : Int32) : q_X12_trialOf__7 s3 v4 = some (v4 - (1 : Int32), s3) := rfl
theorem e_X12_trialOf (x1 : Int32) (x2 : Int32) (σ : wg_M) : f_X12_trialOf 0 x1 x2 σ = wg_st σ 0 0 (0 : Int32) (q_X12_trialOf__1 x1 x2) := by
  unfold f_X12_trialOf
  simp only [sm_n1, sm_n6, sm_n7, sm_r0_1, sm_r0_11, sm_r0_12]
  rfl
def q_X12_book__5 (s6 : wg_M) (v7 : Int32) : Option (Int32 × wg_M) := some (v7, s6)
def q_X12_book__4 (x1 : Int32) (x2 : Int32) (v5 : Int32) (s6 : wg_M) : Option (Int32 × wg_M) := if v5 = 0 then (some ((-10000 : Int32), s6)) else (wg_ga 600 (s6 8) (((4 : Int32) * x1) + x2) (q_X12_book__5 s6))
def q_X12_book__3 (x1 : Int32) (x2 : Int32) (v3 : Int32) (s4 : wg_M) : Option (Int32 × wg_M) := if v3 = 0 then (some ((-10000 : Int32), s4)) else (wg_bd (f_X12_isIn 0 x2 (0 : Int32) (3 : Int32) s4) (q_X12_book__4 x1 x2))
def q_X12_book__2 (x1 : Int32) (x2 : Int32) (s1 : wg_M) (v2 : Int32) : Option (Int32 × wg_M) := wg_bd (f_X12_isIn 0 x1 (0 : Int32) (v2 - (1 : Int32)) s1) (q_X12_book__3 x1 x2)
def q_X12_book__1 (x1 : Int32) (x2 : Int32) (s1 : wg_M) : Option (Int32 × wg_M) := wg_ga 295 (s1 1) (2 : Int32) (q_X12_book__2 x1 x2 s1)
theorem e_X12_book__1 (x1 : Int32) (x2 : Int32) (s1 : wg_M) : q_X12_book__1 x1 x2 s1 = wg_ga 295 (s1 1) (2 : Int32) (q_X12_book__2 x1 x2 s1) := rfl
theorem e_X12_book__2 (x1 : Int32) (x2 : Int32) (s1 : wg_M) (v2 : Int32) : q_X12_book__2 x1 x2 s1 v2 = wg_bd (f_X12_isIn 0 x1 (0 : Int32) (v2 - (1 : Int32)) s1) (q_X12_book__3 x1 x2) := rfl
theorem e_X12_book__3 (x1 : Int32) (x2 : Int32) (v3 : Int32) (s4 : wg_M) : q_X12_book__3 x1 x2 v3 s4 = if v3 = 0 then (some ((-10000 : Int32), s4)) else (wg_bd (f_X12_isIn 0 x2 (0 : Int32) (3 : Int32) s4) (q_X12_book__4 x1 x2)) := rfl
theorem e_X12_book__4 (x1 : Int32) (x2 : Int32) (v5 : Int32) (s6 : wg_M) : q_X12_book__4 x1 x2 v5 s6 = if v5 = 0 then (some ((-10000 : Int32), s6)) else (wg_ga 600 (s6 8) (((4 : Int32) * x1) + x2) (q_X12_book__5 s6)) := rfl
theorem e_X12_book__5 (s6 : wg_M) (v7 : Int32) : q_X12_book__5 s6 v7 = some (v7, s6) := rfl
theorem e_X12_book (x1 : Int32) (x2 : Int32) (σ : wg_M) : f_X12_book 0 x1 x2 σ = wg_st σ 0 0 (0 : Int32) (q_X12_book__1 x1 x2) := by
  unfold f_X12_book
  simp only [sm_n1, sm_n8, sm_r0_1, sm_r0_13]
  rfl
def q_X12_deadSet_26__1 (k4 : Nat → Int32 → Int32 → wg_M → Option (Int32 × wg_M)) (x1 : Int32) (σ : wg_M) (v1 : Int32) : Option (Int32 × wg_M) := k4 0 x1 v1 σ
theorem e_X12_deadSet_26__1 (k4 : Nat → Int32 → Int32 → wg_M → Option (Int32 × wg_M)) (x1 : Int32) (σ : wg_M) (v1 : Int32) : q_X12_deadSet_26__1 k4 x1 σ v1 = k4 0 x1 v1 σ := rfl
theorem e_X12_deadSet_26 (k4 : Nat → Int32 → Int32 → wg_M → Option (Int32 × wg_M)) (x1 : Int32) (x2 : Int32) (σ : wg_M) : f_X12_deadSet_26 k4 0 x1 x2 σ = wg_let (x2 + (1 : Int32)) (q_X12_deadSet_26__1 k4 x1 σ) := rfl
def q_X12_deadSet_4__2 (n : Nat) (x2 : Int32) (s2 : wg_M) (v3 : Int32) : Option (Int32 × wg_M) := f_X12_deadSet_26 (f_X12_deadSet_4  n) 0 v3 x2 s2
def q_X12_deadSet_4__1 (n : Nat) (x1 : Int32) (x2 : Int32) (v1 : Int32) (s2 : wg_M) : Option (Int32 × wg_M) := if v1 = 0 then (wg_let (x1 ||| ((1 : Int32) <<< (x2 &&& 31))) (q_X12_deadSet_4__2 n x2 s2)) else (f_X12_deadSet_26 (f_X12_deadSet_4  n) 0 x1 x2 s2)
theorem e_X12_deadSet_4__1 (n : Nat) (x1 : Int32) (x2 : Int32) (v1 : Int32) (s2 : wg_M) : q_X12_deadSet_4__1 n x1 x2 v1 s2 = if v1 = 0 then (wg_let (x1 ||| ((1 : Int32) <<< (x2 &&& 31))) (q_X12_deadSet_4__2 n x2 s2)) else (f_X12_deadSet_26 (f_X12_deadSet_4  n) 0 x1 x2 s2) := rfl
theorem e_X12_deadSet_4__2 (n : Nat) (x2 : Int32) (s2 : wg_M) (v3 : Int32) : q_X12_deadSet_4__2 n x2 s2 v3 = f_X12_deadSet_26 (f_X12_deadSet_4  n) 0 v3 x2 s2 := rfl
theorem e_X12_deadSet_4 (n : Nat) (x1 : Int32) (x2 : Int32) (σ : wg_M) : f_X12_deadSet_4 (n + 1) 0 x1 x2 σ = if (σ 0 7) ≤ x2 then (some (x1, σ)) else (wg_bd (f_X12_isAlive 0 x2 σ) (q_X12_deadSet_4__1 n x1 x2)) := by
  rw [f_X12_deadSet_4]
  rfl
theorem e_X12_deadSet (σ : wg_M) : f_X12_deadSet 0 σ = f_X12_deadSet_4  wg_N 0 (0 : Int32) (0 : Int32) σ := rfl
def q_X12_goes_139__1 (k107 : Nat → Int32 → Int32 → Int32 → Int32 → Int32 → wg_M → Option (Int32 × wg_M)) (x2 : Int32) (x3 : Int32) (x4 : Int32) (x5 : Int32) (σ : wg_M) (v1 : Int32) : Option (Int32 × wg_M) := k107 0 x2 x3 x4 x5 v1 σ
theorem e_X12_goes_139__1 (k107 : Nat → Int32 → Int32 → Int32 → Int32 → Int32 → wg_M → Option (Int32 × wg_M)) (x2 : Int32) (x3 : Int32) (x4 : Int32) (x5 : Int32) (σ : wg_M) (v1 : Int32) : q_X12_goes_139__1 k107 x2 x3 x4 x5 σ v1 = k107 0 x2 x3 x4 x5 v1 σ := rfl
theorem e_X12_goes_139 (k107 : Nat → Int32 → Int32 → Int32 → Int32 → Int32 → wg_M → Option (Int32 × wg_M)) (x2 : Int32) (x3 : Int32) (x4 : Int32) (x5 : Int32) (x6 : Int32) (σ : wg_M) : f_X12_goes_139 k107 0 x2 x3 x4 x5 x6 σ = wg_let (x6 + (1 : Int32)) (q_X12_goes_139__1 k107 x2 x3 x4 x5 σ) := rfl
def q_X12_goes_181__1 (t0 : Int32) (_u1 : Int32) (s1 : wg_M) : Option (Int32 × wg_M) := some (t0, s1)
theorem e_X12_goes_181__1 (t0 : Int32) (_u1 : Int32) (s1 : wg_M) : q_X12_goes_181__1 t0 _u1 s1 = some (t0, s1) := rfl
theorem e_X12_goes_181 (t0 : Int32) (σ : wg_M) : f_X12_goes_181 0 t0 σ = wg_bd (f_X12_endsThought 0 σ) (q_X12_goes_181__1 t0) := rfl
def q_X12_goes_107__4 (n : Nat) (x2 : Int32) (x3 : Int32) (x4 : Int32) (x6 : Int32) (σ : wg_M) (v6 : Int32) : Option (Int32 × wg_M) := f_X12_goes_139 (f_X12_goes_107  n) 0 x2 x3 x4 v6 x6 σ
def q_X12_goes_107__3 (n : Nat) (x2 : Int32) (x3 : Int32) (x4 : Int32) (x5 : Int32) (x6 : Int32) (σ : wg_M) (v5 : Int32) : Option (Int32 × wg_M) := if v5 ≤ (1000 : Int32) then (f_X12_goes_139 (f_X12_goes_107  n) 0 x2 x3 x4 x5 x6 σ) else (wg_let (x5 + (1 : Int32)) (q_X12_goes_107__4 n x2 x3 x4 x6 σ))
def q_X12_goes_107__2 (v3 : Int32) (s4 : wg_M) : Option (Int32 × wg_M) := f_X12_goes_181  0 v3 s4
def q_X12_goes_107__1 (v1 : Int32) (s2 : wg_M) : Option (Int32 × wg_M) := wg_bd (f_X12_onesOf 0 v1 s2) q_X12_goes_107__2
theorem e_X12_goes_107__1 (v1 : Int32) (s2 : wg_M) : q_X12_goes_107__1 v1 s2 = wg_bd (f_X12_onesOf 0 v1 s2) q_X12_goes_107__2 := rfl
theorem e_X12_goes_107__2 (v3 : Int32) (s4 : wg_M) : q_X12_goes_107__2 v3 s4 = f_X12_goes_181  0 v3 s4 := rfl
theorem e_X12_goes_107__3 (n : Nat) (x2 : Int32) (x3 : Int32) (x4 : Int32) (x5 : Int32) (x6 : Int32) (σ : wg_M) (v5 : Int32) : q_X12_goes_107__3 n x2 x3 x4 x5 x6 σ v5 = if v5 ≤ (1000 : Int32) then (f_X12_goes_139 (f_X12_goes_107  n) 0 x2 x3 x4 x5 x6 σ) else (wg_let (x5 + (1 : Int32)) (q_X12_goes_107__4 n x2 x3 x4 x6 σ)) := rfl
theorem e_X12_goes_107__4 (n : Nat) (x2 : Int32) (x3 : Int32) (x4 : Int32) (x6 : Int32) (σ : wg_M) (v6 : Int32) : q_X12_goes_107__4 n x2 x3 x4 x6 σ v6 = f_X12_goes_139 (f_X12_goes_107  n) 0 x2 x3 x4 v6 x6 σ := rfl
theorem e_X12_goes_107 (n : Nat) (x2 : Int32) (x3 : Int32) (x4 : Int32) (x5 : Int32) (x6 : Int32) (σ : wg_M) : f_X12_goes_107 (n + 1) 0 x2 x3 x4 x5 x6 σ = if (σ 0 8) ≤ x6 then (if x2 = 0 then (wg_bd (f_X12_deadSet 0 σ) q_X12_goes_107__1) else (if x2 = (1 : Int32) then (f_X12_goes_181  0 x3 σ) else (if x2 = (2 : Int32) then (f_X12_goes_181  0 x4 σ) else (f_X12_goes_181  0 x5 σ)))) else (wg_ga 295 (σ 1) ((267 : Int32) + x6) (q_X12_goes_107__3 n x2 x3 x4 x5 x6 σ)) := by
  rw [f_X12_goes_107]
  simp only [sm_n1, sm_r0_1]
  rfl
def q_X12_goes_61__5 (n : Nat) (x2 : Int32) (x5 : Int32) (σ : wg_M) (v2 : Int32) (v4 : Int32) (v5 : Int32) : Option (Int32 × wg_M) := f_X12_goes_61  n 0 x2 v2 v4 x5 v5 σ
def q_X12_goes_61__4 (n : Nat) (x2 : Int32) (x5 : Int32) (x6 : Int32) (σ : wg_M) (v2 : Int32) (v4 : Int32) : Option (Int32 × wg_M) := wg_let (x6 + (1 : Int32)) (q_X12_goes_61__5 n x2 x5 σ v2 v4)
def q_X12_goes_61__3 (n : Nat) (x2 : Int32) (x4 : Int32) (x5 : Int32) (x6 : Int32) (σ : wg_M) (v2 : Int32) (v3 : Int32) : Option (Int32 × wg_M) := wg_let (x4 + v3) (q_X12_goes_61__4 n x2 x5 x6 σ v2)
def q_X12_goes_61__2 (n : Nat) (x2 : Int32) (x4 : Int32) (x5 : Int32) (x6 : Int32) (σ : wg_M) (v2 : Int32) : Option (Int32 × wg_M) := wg_ga 295 (σ 1) ((43 : Int32) + x6) (q_X12_goes_61__3 n x2 x4 x5 x6 σ v2)
def q_X12_goes_61__1 (n : Nat) (x2 : Int32) (x3 : Int32) (x4 : Int32) (x5 : Int32) (x6 : Int32) (σ : wg_M) (v1 : Int32) : Option (Int32 × wg_M) := wg_let (x3 + v1) (q_X12_goes_61__2 n x2 x4 x5 x6 σ)
theorem e_X12_goes_61__1 (n : Nat) (x2 : Int32) (x3 : Int32) (x4 : Int32) (x5 : Int32) (x6 : Int32) (σ : wg_M) (v1 : Int32) : q_X12_goes_61__1 n x2 x3 x4 x5 x6 σ v1 = wg_let (x3 + v1) (q_X12_goes_61__2 n x2 x4 x5 x6 σ) := rfl
theorem e_X12_goes_61__2 (n : Nat) (x2 : Int32) (x4 : Int32) (x5 : Int32) (x6 : Int32) (σ : wg_M) (v2 : Int32) : q_X12_goes_61__2 n x2 x4 x5 x6 σ v2 = wg_ga 295 (σ 1) ((43 : Int32) + x6) (q_X12_goes_61__3 n x2 x4 x5 x6 σ v2) := rfl
theorem e_X12_goes_61__3 (n : Nat) (x2 : Int32) (x4 : Int32) (x5 : Int32) (x6 : Int32) (σ : wg_M) (v2 : Int32) (v3 : Int32) : q_X12_goes_61__3 n x2 x4 x5 x6 σ v2 v3 = wg_let (x4 + v3) (q_X12_goes_61__4 n x2 x5 x6 σ v2) := rfl
theorem e_X12_goes_61__4 (n : Nat) (x2 : Int32) (x5 : Int32) (x6 : Int32) (σ : wg_M) (v2 : Int32) (v4 : Int32) : q_X12_goes_61__4 n x2 x5 x6 σ v2 v4 = wg_let (x6 + (1 : Int32)) (q_X12_goes_61__5 n x2 x5 σ v2 v4) := rfl
theorem e_X12_goes_61__5 (n : Nat) (x2 : Int32) (x5 : Int32) (σ : wg_M) (v2 : Int32) (v4 : Int32) (v5 : Int32) : q_X12_goes_61__5 n x2 x5 σ v2 v4 v5 = f_X12_goes_61  n 0 x2 v2 v4 x5 v5 σ := rfl
theorem e_X12_goes_61 (n : Nat) (x2 : Int32) (x3 : Int32) (x4 : Int32) (x5 : Int32) (x6 : Int32) (σ : wg_M) : f_X12_goes_61 (n + 1) 0 x2 x3 x4 x5 x6 σ = if (σ 0 6) ≤ x6 then (f_X12_goes_107  wg_N 0 x2 x3 x4 x5 (0 : Int32) σ) else (wg_ga 295 (σ 1) ((67 : Int32) + x6) (q_X12_goes_61__1 n x2 x3 x4 x5 x6 σ)) := by
  rw [f_X12_goes_61]
  simp only [sm_n1, sm_r0_1]
  rfl
def q_X12_goes_34__2 (n : Nat) (x1 : Int32) (x2 : Int32) (s2 : wg_M) (v3 : Int32) : Option (Int32 × wg_M) := f_X12_goes_34  n 0 x1 x2 v3 s2
def q_X12_goes_34__1 (n : Nat) (x1 : Int32) (x2 : Int32) (x3 : Int32) (v1 : Int32) (s2 : wg_M) : Option (Int32 × wg_M) := wg_let (x3 + (1 : Int32)) (q_X12_goes_34__2 n x1 x2 s2)
theorem e_X12_goes_34__1 (n : Nat) (x1 : Int32) (x2 : Int32) (x3 : Int32) (v1 : Int32) (s2 : wg_M) : q_X12_goes_34__1 n x1 x2 x3 v1 s2 = wg_let (x3 + (1 : Int32)) (q_X12_goes_34__2 n x1 x2 s2) := rfl
theorem e_X12_goes_34__2 (n : Nat) (x1 : Int32) (x2 : Int32) (s2 : wg_M) (v3 : Int32) : q_X12_goes_34__2 n x1 x2 s2 v3 = f_X12_goes_34  n 0 x1 x2 v3 s2 := rfl
theorem e_X12_goes_34 (n : Nat) (x1 : Int32) (x2 : Int32) (x3 : Int32) (σ : wg_M) : f_X12_goes_34 (n + 1) 0 x1 x2 x3 σ = if x1 ≤ x3 then (f_X12_goes_61  wg_N 0 x2 (0 : Int32) (0 : Int32) (0 : Int32) (0 : Int32) σ) else (wg_bd (f_X12_goesBy 0 σ) (q_X12_goes_34__1 n x1 x2 x3)) := by
  rw [f_X12_goes_34]
  rfl
def q_X12_goes__4 (x1 : Int32) (x2 : Int32) (_u4 : Int32) (s6 : wg_M) : Option (Int32 × wg_M) := f_X12_goes_34  wg_N 0 x1 x2 (0 : Int32) s6
def q_X12_goes__3 (x1 : Int32) (x2 : Int32) (v4 : Int32) (s5 : wg_M) : Option (Int32 × wg_M) := if v4 = 0 then (some ((-1 : Int32), s5)) else (wg_bd (f_X12_thinks 0 s5) (q_X12_goes__4 x1 x2))
def q_X12_goes__2 (x1 : Int32) (x2 : Int32) (v2 : Int32) (s3 : wg_M) : Option (Int32 × wg_M) := if v2 = 0 then (some ((-1 : Int32), s3)) else (wg_bd (f_X12_isIn 0 x2 (0 : Int32) (3 : Int32) s3) (q_X12_goes__3 x1 x2))
def q_X12_goes__1 (x1 : Int32) (x2 : Int32) (s1 : wg_M) : Option (Int32 × wg_M) := wg_bd (f_X12_isIn 0 x1 (1 : Int32) (60 : Int32) s1) (q_X12_goes__2 x1 x2)
theorem e_X12_goes__1 (x1 : Int32) (x2 : Int32) (s1 : wg_M) : q_X12_goes__1 x1 x2 s1 = wg_bd (f_X12_isIn 0 x1 (1 : Int32) (60 : Int32) s1) (q_X12_goes__2 x1 x2) := rfl
theorem e_X12_goes__2 (x1 : Int32) (x2 : Int32) (v2 : Int32) (s3 : wg_M) : q_X12_goes__2 x1 x2 v2 s3 = if v2 = 0 then (some ((-1 : Int32), s3)) else (wg_bd (f_X12_isIn 0 x2 (0 : Int32) (3 : Int32) s3) (q_X12_goes__3 x1 x2)) := rfl
theorem e_X12_goes__3 (x1 : Int32) (x2 : Int32) (v4 : Int32) (s5 : wg_M) : q_X12_goes__3 x1 x2 v4 s5 = if v4 = 0 then (some ((-1 : Int32), s5)) else (wg_bd (f_X12_thinks 0 s5) (q_X12_goes__4 x1 x2)) := rfl
theorem e_X12_goes__4 (x1 : Int32) (x2 : Int32) (_u4 : Int32) (s6 : wg_M) : q_X12_goes__4 x1 x2 _u4 s6 = f_X12_goes_34  wg_N 0 x1 x2 (0 : Int32) s6 := rfl
theorem e_X12_goes (x1 : Int32) (x2 : Int32) (σ : wg_M) : f_X12_goes 0 x1 x2 σ = wg_st σ 0 0 (0 : Int32) (q_X12_goes__1 x1 x2) := rfl
def q_X12_would__5 (v8 : Int32) (s9 : wg_M) : Option (Int32 × wg_M) := some (v8, s9)
def q_X12_would__4 (x1 : Int32) (x2 : Int32) (v6 : Int32) (s7 : wg_M) : Option (Int32 × wg_M) := if v6 = 0 then (some ((-10000 : Int32), s7)) else (wg_bd (f_X12_verdictOf 0 x1 x2 s7) q_X12_would__5)
def q_X12_would__3 (x1 : Int32) (x2 : Int32) (v4 : Int32) (s5 : wg_M) : Option (Int32 × wg_M) := if v4 = 0 then (some ((-10000 : Int32), s5)) else (wg_bd (f_X12_isAlive 0 x2 s5) (q_X12_would__4 x1 x2))
def q_X12_would__2 (x1 : Int32) (x2 : Int32) (v2 : Int32) (s3 : wg_M) : Option (Int32 × wg_M) := if v2 = 0 then (some ((-10000 : Int32), s3)) else (wg_bd (f_X12_isJudge 0 x2 s3) (q_X12_would__3 x1 x2))
def q_X12_would__1 (x1 : Int32) (x2 : Int32) (s1 : wg_M) : Option (Int32 × wg_M) := wg_bd (f_X12_isTrial 0 x1 s1) (q_X12_would__2 x1 x2)
theorem e_X12_would__1 (x1 : Int32) (x2 : Int32) (s1 : wg_M) : q_X12_would__1 x1 x2 s1 = wg_bd (f_X12_isTrial 0 x1 s1) (q_X12_would__2 x1 x2) := rfl
theorem e_X12_would__2 (x1 : Int32) (x2 : Int32) (v2 : Int32) (s3 : wg_M) : q_X12_would__2 x1 x2 v2 s3 = if v2 = 0 then (some ((-10000 : Int32), s3)) else (wg_bd (f_X12_isJudge 0 x2 s3) (q_X12_would__3 x1 x2)) := rfl
theorem e_X12_would__3 (x1 : Int32) (x2 : Int32) (v4 : Int32) (s5 : wg_M) : q_X12_would__3 x1 x2 v4 s5 = if v4 = 0 then (some ((-10000 : Int32), s5)) else (wg_bd (f_X12_isAlive 0 x2 s5) (q_X12_would__4 x1 x2)) := rfl
theorem e_X12_would__4 (x1 : Int32) (x2 : Int32) (v6 : Int32) (s7 : wg_M) : q_X12_would__4 x1 x2 v6 s7 = if v6 = 0 then (some ((-10000 : Int32), s7)) else (wg_bd (f_X12_verdictOf 0 x1 x2 s7) q_X12_would__5) := rfl
theorem e_X12_would__5 (v8 : Int32) (s9 : wg_M) : q_X12_would__5 v8 s9 = some (v8, s9) := rfl
theorem e_X12_would (x1 : Int32) (x2 : Int32) (σ : wg_M) : f_X12_would 0 x1 x2 σ = wg_st σ 0 0 (0 : Int32) (q_X12_would__1 x1 x2) := rfl
def q_X12_forum_100__1 (k30 : Nat → Int32 → Int32 → Int32 → Int32 → wg_M → Option (Int32 × wg_M)) (x1 : Int32) (x2 : Int32) (x3 : Int32) (σ : wg_M) (v1 : Int32) : Option (Int32 × wg_M) := k30 0 x1 x2 x3 v1 σ
theorem e_X12_forum_100__1 (k30 : Nat → Int32 → Int32 → Int32 → Int32 → wg_M → Option (Int32 × wg_M)) (x1 : Int32) (x2 : Int32) (x3 : Int32) (σ : wg_M) (v1 : Int32) : q_X12_forum_100__1 k30 x1 x2 x3 σ v1 = k30 0 x1 x2 x3 v1 σ := rfl
theorem e_X12_forum_100 (k30 : Nat → Int32 → Int32 → Int32 → Int32 → wg_M → Option (Int32 × wg_M)) (x1 : Int32) (x2 : Int32) (x3 : Int32) (x4 : Int32) (σ : wg_M) : f_X12_forum_100 k30 0 x1 x2 x3 x4 σ = wg_let (x4 + (1 : Int32)) (q_X12_forum_100__1 k30 x1 x2 x3 σ) := rfl
theorem e_X12_forum_97 (k30 : Nat → Int32 → Int32 → Int32 → Int32 → wg_M → Option (Int32 × wg_M)) (x1 : Int32) (x2 : Int32) (x4 : Int32) (σ : wg_M) : f_X12_forum_97 k30 0 x1 x2 x4 σ = f_X12_forum_100 k30 0 x1 x2 x4 x4 σ := rfl
def q_X12_forum_76__2 (k30 : Nat → Int32 → Int32 → Int32 → Int32 → wg_M → Option (Int32 × wg_M)) (x1 : Int32) (x2 : Int32) (x3 : Int32) (x4 : Int32) (v1 : Int32) (v3 : Int32) (s4 : wg_M) : Option (Int32 × wg_M) := if v3 ≤ v1 then (f_X12_forum_100 k30 0 x1 x2 x3 x4 s4) else (f_X12_forum_97 k30 0 x1 x2 x4 s4)
def q_X12_forum_76__1 (k30 : Nat → Int32 → Int32 → Int32 → Int32 → wg_M → Option (Int32 × wg_M)) (x1 : Int32) (x2 : Int32) (x3 : Int32) (x4 : Int32) (v1 : Int32) (s2 : wg_M) : Option (Int32 × wg_M) := wg_bd (f_X12_verdictOf 0 x1 x3 s2) (q_X12_forum_76__2 k30 x1 x2 x3 x4 v1)
theorem e_X12_forum_76__1 (k30 : Nat → Int32 → Int32 → Int32 → Int32 → wg_M → Option (Int32 × wg_M)) (x1 : Int32) (x2 : Int32) (x3 : Int32) (x4 : Int32) (v1 : Int32) (s2 : wg_M) : q_X12_forum_76__1 k30 x1 x2 x3 x4 v1 s2 = wg_bd (f_X12_verdictOf 0 x1 x3 s2) (q_X12_forum_76__2 k30 x1 x2 x3 x4 v1) := rfl
theorem e_X12_forum_76__2 (k30 : Nat → Int32 → Int32 → Int32 → Int32 → wg_M → Option (Int32 × wg_M)) (x1 : Int32) (x2 : Int32) (x3 : Int32) (x4 : Int32) (v1 : Int32) (v3 : Int32) (s4 : wg_M) : q_X12_forum_76__2 k30 x1 x2 x3 x4 v1 v3 s4 = if v3 ≤ v1 then (f_X12_forum_100 k30 0 x1 x2 x3 x4 s4) else (f_X12_forum_97 k30 0 x1 x2 x4 s4) := rfl
theorem e_X12_forum_76 (k30 : Nat → Int32 → Int32 → Int32 → Int32 → wg_M → Option (Int32 × wg_M)) (x1 : Int32) (x2 : Int32) (x3 : Int32) (x4 : Int32) (σ : wg_M) : f_X12_forum_76 k30 0 x1 x2 x3 x4 σ = if x2 = (1 : Int32) then (wg_bd (f_X12_verdictOf 0 x1 x4 σ) (q_X12_forum_76__1 k30 x1 x2 x3 x4)) else (f_X12_forum_100 k30 0 x1 x2 x3 x4 σ) := rfl
def q_X12_forum_30__3 (n : Nat) (x1 : Int32) (x2 : Int32) (x3 : Int32) (x4 : Int32) (v3 : Int32) (v5 : Int32) (s6 : wg_M) : Option (Int32 × wg_M) := if v5 < v3 then (f_X12_forum_97 (f_X12_forum_30  n) 0 x1 x2 x4 s6) else (f_X12_forum_76 (f_X12_forum_30  n) 0 x1 x2 x3 x4 s6)
def q_X12_forum_30__2 (n : Nat) (x1 : Int32) (x2 : Int32) (x3 : Int32) (x4 : Int32) (v3 : Int32) (s4 : wg_M) : Option (Int32 × wg_M) := wg_bd (f_X12_verdictOf 0 x1 x3 s4) (q_X12_forum_30__3 n x1 x2 x3 x4 v3)
def q_X12_forum_30__1 (n : Nat) (x1 : Int32) (x2 : Int32) (x3 : Int32) (x4 : Int32) (v1 : Int32) (s2 : wg_M) : Option (Int32 × wg_M) := if v1 = 0 then (f_X12_forum_100 (f_X12_forum_30  n) 0 x1 x2 x3 x4 s2) else (if x3 = (-1 : Int32) then (f_X12_forum_97 (f_X12_forum_30  n) 0 x1 x2 x4 s2) else (if x2 = 0 then (wg_bd (f_X12_verdictOf 0 x1 x4 s2) (q_X12_forum_30__2 n x1 x2 x3 x4)) else (f_X12_forum_76 (f_X12_forum_30  n) 0 x1 x2 x3 x4 s2)))
theorem e_X12_forum_30__1 (n : Nat) (x1 : Int32) (x2 : Int32) (x3 : Int32) (x4 : Int32) (v1 : Int32) (s2 : wg_M) : q_X12_forum_30__1 n x1 x2 x3 x4 v1 s2 = if v1 = 0 then (f_X12_forum_100 (f_X12_forum_30  n) 0 x1 x2 x3 x4 s2) else (if x3 = (-1 : Int32) then (f_X12_forum_97 (f_X12_forum_30  n) 0 x1 x2 x4 s2) else (if x2 = 0 then (wg_bd (f_X12_verdictOf 0 x1 x4 s2) (q_X12_forum_30__2 n x1 x2 x3 x4)) else (f_X12_forum_76 (f_X12_forum_30  n) 0 x1 x2 x3 x4 s2))) := rfl
theorem e_X12_forum_30__2 (n : Nat) (x1 : Int32) (x2 : Int32) (x3 : Int32) (x4 : Int32) (v3 : Int32) (s4 : wg_M) : q_X12_forum_30__2 n x1 x2 x3 x4 v3 s4 = wg_bd (f_X12_verdictOf 0 x1 x3 s4) (q_X12_forum_30__3 n x1 x2 x3 x4 v3) := rfl
theorem e_X12_forum_30__3 (n : Nat) (x1 : Int32) (x2 : Int32) (x3 : Int32) (x4 : Int32) (v3 : Int32) (v5 : Int32) (s6 : wg_M) : q_X12_forum_30__3 n x1 x2 x3 x4 v3 v5 s6 = if v5 < v3 then (f_X12_forum_97 (f_X12_forum_30  n) 0 x1 x2 x4 s6) else (f_X12_forum_76 (f_X12_forum_30  n) 0 x1 x2 x3 x4 s6) := rfl
theorem e_X12_forum_30 (n : Nat) (x1 : Int32) (x2 : Int32) (x3 : Int32) (x4 : Int32) (σ : wg_M) : f_X12_forum_30 (n + 1) 0 x1 x2 x3 x4 σ = if (σ 0 7) ≤ x4 then (some (x3, σ)) else (wg_bd (f_X12_isAlive 0 x4 σ) (q_X12_forum_30__1 n x1 x2 x3 x4)) := by
  rw [f_X12_forum_30]
  rfl
def q_X12_forum__3 (x1 : Int32) (x2 : Int32) (v4 : Int32) (s5 : wg_M) : Option (Int32 × wg_M) := if v4 = 0 then (some ((-1 : Int32), s5)) else (f_X12_forum_30  wg_N 0 x1 x2 (-1 : Int32) (0 : Int32) s5)
def q_X12_forum__2 (x1 : Int32) (x2 : Int32) (v2 : Int32) (s3 : wg_M) : Option (Int32 × wg_M) := if v2 = 0 then (some ((-1 : Int32), s3)) else (wg_bd (f_X12_isIn 0 x2 (0 : Int32) (1 : Int32) s3) (q_X12_forum__3 x1 x2))
def q_X12_forum__1 (x1 : Int32) (x2 : Int32) (s1 : wg_M) : Option (Int32 × wg_M) := wg_bd (f_X12_isTrial 0 x1 s1) (q_X12_forum__2 x1 x2)
theorem e_X12_forum__1 (x1 : Int32) (x2 : Int32) (s1 : wg_M) : q_X12_forum__1 x1 x2 s1 = wg_bd (f_X12_isTrial 0 x1 s1) (q_X12_forum__2 x1 x2) := rfl
theorem e_X12_forum__2 (x1 : Int32) (x2 : Int32) (v2 : Int32) (s3 : wg_M) : q_X12_forum__2 x1 x2 v2 s3 = if v2 = 0 then (some ((-1 : Int32), s3)) else (wg_bd (f_X12_isIn 0 x2 (0 : Int32) (1 : Int32) s3) (q_X12_forum__3 x1 x2)) := rfl
theorem e_X12_forum__3 (x1 : Int32) (x2 : Int32) (v4 : Int32) (s5 : wg_M) : q_X12_forum__3 x1 x2 v4 s5 = if v4 = 0 then (some ((-1 : Int32), s5)) else (f_X12_forum_30  wg_N 0 x1 x2 (-1 : Int32) (0 : Int32) s5) := rfl
theorem e_X12_forum (x1 : Int32) (x2 : Int32) (σ : wg_M) : f_X12_forum 0 x1 x2 σ = wg_st σ 0 0 (0 : Int32) (q_X12_forum__1 x1 x2) := rfl
def q_X12_agrees_56__1 (k18 : Nat → Int32 → Int32 → Int32 → Int32 → wg_M → Option (Int32 × wg_M)) (x1 : Int32) (x2 : Int32) (x3 : Int32) (σ : wg_M) (v1 : Int32) : Option (Int32 × wg_M) := k18 0 x1 x2 x3 v1 σ
theorem e_X12_agrees_56__1 (k18 : Nat → Int32 → Int32 → Int32 → Int32 → wg_M → Option (Int32 × wg_M)) (x1 : Int32) (x2 : Int32) (x3 : Int32) (σ : wg_M) (v1 : Int32) : q_X12_agrees_56__1 k18 x1 x2 x3 σ v1 = k18 0 x1 x2 x3 v1 σ := rfl
theorem e_X12_agrees_56 (k18 : Nat → Int32 → Int32 → Int32 → Int32 → wg_M → Option (Int32 × wg_M)) (x1 : Int32) (x2 : Int32) (x3 : Int32) (x4 : Int32) (σ : wg_M) : f_X12_agrees_56 k18 0 x1 x2 x3 x4 σ = wg_let (x4 + (1 : Int32)) (q_X12_agrees_56__1 k18 x1 x2 x3 σ) := rfl
def q_X12_agrees_18__4 (k2 : Nat → Int32 → Int32 → Int32 → wg_M → Option (Int32 × wg_M)) (n : Nat) (x1 : Int32) (x2 : Int32) (x3 : Int32) (x4 : Int32) (v6 : Int32) (s7 : wg_M) : Option (Int32 × wg_M) := if v6 = 0 then (f_X12_agrees_56 (f_X12_agrees_18 k2 n) 0 x1 x2 x3 x4 s7) else (some ((0 : Int32), s7))
def q_X12_agrees_18__3 (k2 : Nat → Int32 → Int32 → Int32 → wg_M → Option (Int32 × wg_M)) (n : Nat) (x1 : Int32) (x2 : Int32) (x3 : Int32) (x4 : Int32) (v4 : Int32) (s5 : wg_M) : Option (Int32 × wg_M) := if v4 = 0 then (wg_bd (f_X12_isItching 0 x1 x3 x4 s5) (q_X12_agrees_18__4 k2 n x1 x2 x3 x4)) else (f_X12_agrees_56 (f_X12_agrees_18 k2 n) 0 x1 x2 x3 x4 s5)
def q_X12_agrees_18__2 (k2 : Nat → Int32 → Int32 → Int32 → wg_M → Option (Int32 × wg_M)) (n : Nat) (x1 : Int32) (x2 : Int32) (x3 : Int32) (x4 : Int32) (v2 : Int32) (s3 : wg_M) : Option (Int32 × wg_M) := if v2 = 0 then (wg_bd (f_X12_has 0 x2 x4 s3) (q_X12_agrees_18__3 k2 n x1 x2 x3 x4)) else (f_X12_agrees_56 (f_X12_agrees_18 k2 n) 0 x1 x2 x3 x4 s3)
def q_X12_agrees_18__1 (k2 : Nat → Int32 → Int32 → Int32 → wg_M → Option (Int32 × wg_M)) (x1 : Int32) (x2 : Int32) (σ : wg_M) (v1 : Int32) : Option (Int32 × wg_M) := k2 0 x1 x2 v1 σ
theorem e_X12_agrees_18__1 (k2 : Nat → Int32 → Int32 → Int32 → wg_M → Option (Int32 × wg_M)) (x1 : Int32) (x2 : Int32) (σ : wg_M) (v1 : Int32) : q_X12_agrees_18__1 k2 x1 x2 σ v1 = k2 0 x1 x2 v1 σ := rfl
theorem e_X12_agrees_18__2 (k2 : Nat → Int32 → Int32 → Int32 → wg_M → Option (Int32 × wg_M)) (n : Nat) (x1 : Int32) (x2 : Int32) (x3 : Int32) (x4 : Int32) (v2 : Int32) (s3 : wg_M) : q_X12_agrees_18__2 k2 n x1 x2 x3 x4 v2 s3 = if v2 = 0 then (wg_bd (f_X12_has 0 x2 x4 s3) (q_X12_agrees_18__3 k2 n x1 x2 x3 x4)) else (f_X12_agrees_56 (f_X12_agrees_18 k2 n) 0 x1 x2 x3 x4 s3) := rfl
theorem e_X12_agrees_18__3 (k2 : Nat → Int32 → Int32 → Int32 → wg_M → Option (Int32 × wg_M)) (n : Nat) (x1 : Int32) (x2 : Int32) (x3 : Int32) (x4 : Int32) (v4 : Int32) (s5 : wg_M) : q_X12_agrees_18__3 k2 n x1 x2 x3 x4 v4 s5 = if v4 = 0 then (wg_bd (f_X12_isItching 0 x1 x3 x4 s5) (q_X12_agrees_18__4 k2 n x1 x2 x3 x4)) else (f_X12_agrees_56 (f_X12_agrees_18 k2 n) 0 x1 x2 x3 x4 s5) := rfl
theorem e_X12_agrees_18__4 (k2 : Nat → Int32 → Int32 → Int32 → wg_M → Option (Int32 × wg_M)) (n : Nat) (x1 : Int32) (x2 : Int32) (x3 : Int32) (x4 : Int32) (v6 : Int32) (s7 : wg_M) : q_X12_agrees_18__4 k2 n x1 x2 x3 x4 v6 s7 = if v6 = 0 then (f_X12_agrees_56 (f_X12_agrees_18 k2 n) 0 x1 x2 x3 x4 s7) else (some ((0 : Int32), s7)) := rfl
theorem e_X12_agrees_18 (k2 : Nat → Int32 → Int32 → Int32 → wg_M → Option (Int32 × wg_M)) (n : Nat) (x1 : Int32) (x2 : Int32) (x3 : Int32) (x4 : Int32) (σ : wg_M) : f_X12_agrees_18 k2 (n + 1) 0 x1 x2 x3 x4 σ = if x3 ≤ x4 then (wg_let (x3 + (1 : Int32)) (q_X12_agrees_18__1 k2 x1 x2 σ)) else (wg_bd (f_X12_has 0 x2 x3 σ) (q_X12_agrees_18__2 k2 n x1 x2 x3 x4)) := by
  rw [f_X12_agrees_18]
  rfl
def q_X12_agrees_2__1 (n : Nat) (x1 : Int32) (x2 : Int32) (x3 : Int32) (σ : wg_M) (v1 : Int32) : Option (Int32 × wg_M) := if v1 ≤ x3 then (some ((1 : Int32), σ)) else (f_X12_agrees_18 (f_X12_agrees_2  n) wg_N 0 x1 x2 x3 (0 : Int32) σ)
theorem e_X12_agrees_2__1 (n : Nat) (x1 : Int32) (x2 : Int32) (x3 : Int32) (σ : wg_M) (v1 : Int32) : q_X12_agrees_2__1 n x1 x2 x3 σ v1 = if v1 ≤ x3 then (some ((1 : Int32), σ)) else (f_X12_agrees_18 (f_X12_agrees_2  n) wg_N 0 x1 x2 x3 (0 : Int32) σ) := rfl
theorem e_X12_agrees_2 (n : Nat) (x1 : Int32) (x2 : Int32) (x3 : Int32) (σ : wg_M) : f_X12_agrees_2 (n + 1) 0 x1 x2 x3 σ = wg_ga 295 (σ 1) ((67 : Int32) + x1) (q_X12_agrees_2__1 n x1 x2 x3 σ) := by
  rw [f_X12_agrees_2]
  simp only [sm_n1, sm_r0_1]
  rfl
theorem e_X12_agrees (x1 : Int32) (x2 : Int32) (σ : wg_M) : f_X12_agrees 0 x1 x2 σ = f_X12_agrees_2  wg_N 0 x1 x2 (0 : Int32) σ := rfl
def q_X12_combs_85__1 (k42 : Nat → Int32 → Int32 → Int32 → Int32 → wg_M → Option (Int32 × wg_M)) (x1 : Int32) (x2 : Int32) (x3 : Int32) (σ : wg_M) (v1 : Int32) : Option (Int32 × wg_M) := k42 0 x1 x2 x3 v1 σ
theorem e_X12_combs_85__1 (k42 : Nat → Int32 → Int32 → Int32 → Int32 → wg_M → Option (Int32 × wg_M)) (x1 : Int32) (x2 : Int32) (x3 : Int32) (σ : wg_M) (v1 : Int32) : q_X12_combs_85__1 k42 x1 x2 x3 σ v1 = k42 0 x1 x2 x3 v1 σ := rfl
theorem e_X12_combs_85 (k42 : Nat → Int32 → Int32 → Int32 → Int32 → wg_M → Option (Int32 × wg_M)) (x1 : Int32) (x2 : Int32) (x3 : Int32) (x4 : Int32) (σ : wg_M) : f_X12_combs_85 k42 0 x1 x2 x3 x4 σ = wg_let (x4 + (1 : Int32)) (q_X12_combs_85__1 k42 x1 x2 x3 σ) := rfl
def q_X12_combs_42__5 (n : Nat) (x1 : Int32) (x2 : Int32) (x3 : Int32) (x4 : Int32) (v8 : Int32) (s9 : wg_M) : Option (Int32 × wg_M) := if v8 = 0 then (f_X12_combs_85 (f_X12_combs_42  n) 0 x1 x2 x3 x4 s9) else (f_X12_combs_85 (f_X12_combs_42  n) 0 x1 x2 x4 x4 s9)
def q_X12_combs_42__4 (n : Nat) (x1 : Int32) (x2 : Int32) (x3 : Int32) (x4 : Int32) (v4 : Int32) (v6 : Int32) (s7 : wg_M) : Option (Int32 × wg_M) := if v6 ≤ v4 then (f_X12_combs_85 (f_X12_combs_42  n) 0 x1 x2 x3 x4 s7) else (wg_bd (f_X12_agrees 0 x1 x4 s7) (q_X12_combs_42__5 n x1 x2 x3 x4))
def q_X12_combs_42__3 (n : Nat) (x1 : Int32) (x2 : Int32) (x3 : Int32) (x4 : Int32) (v4 : Int32) (s5 : wg_M) : Option (Int32 × wg_M) := wg_bd (f_X12_onesOf 0 x3 s5) (q_X12_combs_42__4 n x1 x2 x3 x4 v4)
def q_X12_combs_42__2 (v2 : Int32) (s3 : wg_M) : Option (Int32 × wg_M) := some (v2, s3)
def q_X12_combs_42__1 (n : Nat) (x1 : Int32) (x2 : Int32) (x3 : Int32) (x4 : Int32) (σ : wg_M) (v1 : Int32) : Option (Int32 × wg_M) := if ((1 : Int32) <<< (v1 &&& 31)) ≤ x4 then (if x2 = 0 then (wg_bd (f_X12_onesOf 0 x3 σ) q_X12_combs_42__2) else (some (x3, σ))) else (wg_bd (f_X12_onesOf 0 x4 σ) (q_X12_combs_42__3 n x1 x2 x3 x4))
theorem e_X12_combs_42__1 (n : Nat) (x1 : Int32) (x2 : Int32) (x3 : Int32) (x4 : Int32) (σ : wg_M) (v1 : Int32) : q_X12_combs_42__1 n x1 x2 x3 x4 σ v1 = if ((1 : Int32) <<< (v1 &&& 31)) ≤ x4 then (if x2 = 0 then (wg_bd (f_X12_onesOf 0 x3 σ) q_X12_combs_42__2) else (some (x3, σ))) else (wg_bd (f_X12_onesOf 0 x4 σ) (q_X12_combs_42__3 n x1 x2 x3 x4)) := rfl
theorem e_X12_combs_42__2 (v2 : Int32) (s3 : wg_M) : q_X12_combs_42__2 v2 s3 = some (v2, s3) := rfl
theorem e_X12_combs_42__3 (n : Nat) (x1 : Int32) (x2 : Int32) (x3 : Int32) (x4 : Int32) (v4 : Int32) (s5 : wg_M) : q_X12_combs_42__3 n x1 x2 x3 x4 v4 s5 = wg_bd (f_X12_onesOf 0 x3 s5) (q_X12_combs_42__4 n x1 x2 x3 x4 v4) := rfl
theorem e_X12_combs_42__4 (n : Nat) (x1 : Int32) (x2 : Int32) (x3 : Int32) (x4 : Int32) (v4 : Int32) (v6 : Int32) (s7 : wg_M) : q_X12_combs_42__4 n x1 x2 x3 x4 v4 v6 s7 = if v6 ≤ v4 then (f_X12_combs_85 (f_X12_combs_42  n) 0 x1 x2 x3 x4 s7) else (wg_bd (f_X12_agrees 0 x1 x4 s7) (q_X12_combs_42__5 n x1 x2 x3 x4)) := rfl
theorem e_X12_combs_42__5 (n : Nat) (x1 : Int32) (x2 : Int32) (x3 : Int32) (x4 : Int32) (v8 : Int32) (s9 : wg_M) : q_X12_combs_42__5 n x1 x2 x3 x4 v8 s9 = if v8 = 0 then (f_X12_combs_85 (f_X12_combs_42  n) 0 x1 x2 x3 x4 s9) else (f_X12_combs_85 (f_X12_combs_42  n) 0 x1 x2 x4 x4 s9) := rfl
theorem e_X12_combs_42 (n : Nat) (x1 : Int32) (x2 : Int32) (x3 : Int32) (x4 : Int32) (σ : wg_M) : f_X12_combs_42 (n + 1) 0 x1 x2 x3 x4 σ = wg_ga 295 (σ 1) ((67 : Int32) + x1) (q_X12_combs_42__1 n x1 x2 x3 x4 σ) := by
  rw [f_X12_combs_42]
  simp only [sm_n1, sm_r0_1]
  rfl
def q_X12_combs__5 (x1 : Int32) (x2 : Int32) (s5 : wg_M) (v7 : Int32) : Option (Int32 × wg_M) := f_X12_combs_42  wg_N 0 x1 x2 v7 (0 : Int32) s5
def q_X12_combs__4 (x1 : Int32) (x2 : Int32) (s5 : wg_M) (v6 : Int32) : Option (Int32 × wg_M) := wg_let (((1 : Int32) <<< (v6 &&& 31)) - (1 : Int32)) (q_X12_combs__5 x1 x2 s5)
def q_X12_combs__3 (x1 : Int32) (x2 : Int32) (v4 : Int32) (s5 : wg_M) : Option (Int32 × wg_M) := if v4 = 0 then (some ((-1 : Int32), s5)) else (wg_ga 295 (s5 1) ((67 : Int32) + x1) (q_X12_combs__4 x1 x2 s5))
def q_X12_combs__2 (x1 : Int32) (x2 : Int32) (v2 : Int32) (s3 : wg_M) : Option (Int32 × wg_M) := if v2 = 0 then (some ((-1 : Int32), s3)) else (wg_bd (f_X12_isIn 0 x2 (0 : Int32) (1 : Int32) s3) (q_X12_combs__3 x1 x2))
def q_X12_combs__1 (x1 : Int32) (x2 : Int32) (s1 : wg_M) : Option (Int32 × wg_M) := wg_bd (f_X12_isWig 0 x1 s1) (q_X12_combs__2 x1 x2)
theorem e_X12_combs__1 (x1 : Int32) (x2 : Int32) (s1 : wg_M) : q_X12_combs__1 x1 x2 s1 = wg_bd (f_X12_isWig 0 x1 s1) (q_X12_combs__2 x1 x2) := rfl
theorem e_X12_combs__2 (x1 : Int32) (x2 : Int32) (v2 : Int32) (s3 : wg_M) : q_X12_combs__2 x1 x2 v2 s3 = if v2 = 0 then (some ((-1 : Int32), s3)) else (wg_bd (f_X12_isIn 0 x2 (0 : Int32) (1 : Int32) s3) (q_X12_combs__3 x1 x2)) := rfl
theorem e_X12_combs__3 (x1 : Int32) (x2 : Int32) (v4 : Int32) (s5 : wg_M) : q_X12_combs__3 x1 x2 v4 s5 = if v4 = 0 then (some ((-1 : Int32), s5)) else (wg_ga 295 (s5 1) ((67 : Int32) + x1) (q_X12_combs__4 x1 x2 s5)) := rfl
theorem e_X12_combs__4 (x1 : Int32) (x2 : Int32) (s5 : wg_M) (v6 : Int32) : q_X12_combs__4 x1 x2 s5 v6 = wg_let (((1 : Int32) <<< (v6 &&& 31)) - (1 : Int32)) (q_X12_combs__5 x1 x2 s5) := rfl
theorem e_X12_combs__5 (x1 : Int32) (x2 : Int32) (s5 : wg_M) (v7 : Int32) : q_X12_combs__5 x1 x2 s5 v7 = f_X12_combs_42  wg_N 0 x1 x2 v7 (0 : Int32) s5 := rfl
theorem e_X12_combs (x1 : Int32) (x2 : Int32) (σ : wg_M) : f_X12_combs 0 x1 x2 σ = wg_st σ 0 0 (0 : Int32) (q_X12_combs__1 x1 x2) := by
  unfold f_X12_combs
  simp only [sm_n1, sm_r0_1]
  rfl
def q_X12_rulingFor_52__1 (k5 : Nat → Int32 → Int32 → Int32 → Int32 → wg_M → Option (Int32 × wg_M)) (x1 : Int32) (x2 : Int32) (x3 : Int32) (σ : wg_M) (v1 : Int32) : Option (Int32 × wg_M) := k5 0 x1 x2 x3 v1 σ
theorem e_X12_rulingFor_52__1 (k5 : Nat → Int32 → Int32 → Int32 → Int32 → wg_M → Option (Int32 × wg_M)) (x1 : Int32) (x2 : Int32) (x3 : Int32) (σ : wg_M) (v1 : Int32) : q_X12_rulingFor_52__1 k5 x1 x2 x3 σ v1 = k5 0 x1 x2 x3 v1 σ := rfl
theorem e_X12_rulingFor_52 (k5 : Nat → Int32 → Int32 → Int32 → Int32 → wg_M → Option (Int32 × wg_M)) (x1 : Int32) (x2 : Int32) (x3 : Int32) (x4 : Int32) (σ : wg_M) : f_X12_rulingFor_52 k5 0 x1 x2 x3 x4 σ = wg_let (x4 + (1 : Int32)) (q_X12_rulingFor_52__1 k5 x1 x2 x3 σ) := rfl
def q_X12_rulingFor_5__6 (n : Nat) (x1 : Int32) (x2 : Int32) (x4 : Int32) (s6 : wg_M) (v8 : Int32) : Option (Int32 × wg_M) := f_X12_rulingFor_52 (f_X12_rulingFor_5  n) 0 x1 x2 v8 x4 s6
def q_X12_rulingFor_5__5 (n : Nat) (x1 : Int32) (x2 : Int32) (x3 : Int32) (x4 : Int32) (s6 : wg_M) (v7 : Int32) : Option (Int32 × wg_M) := wg_let (x3 + v7) (q_X12_rulingFor_5__6 n x1 x2 x4 s6)
def q_X12_rulingFor_5__4 (n : Nat) (x1 : Int32) (x2 : Int32) (x3 : Int32) (x4 : Int32) (v5 : Int32) (s6 : wg_M) : Option (Int32 × wg_M) := wg_ga 295 (s6 1) (v5 + (1 : Int32)) (q_X12_rulingFor_5__5 n x1 x2 x3 x4 s6)
def q_X12_rulingFor_5__3 (n : Nat) (x1 : Int32) (x2 : Int32) (x3 : Int32) (x4 : Int32) (s3 : wg_M) (v4 : Int32) : Option (Int32 × wg_M) := if v4 = x2 then (wg_bd (f_X12_ruleAt 0 x1 x4 s3) (q_X12_rulingFor_5__4 n x1 x2 x3 x4)) else (f_X12_rulingFor_52 (f_X12_rulingFor_5  n) 0 x1 x2 x3 x4 s3)
def q_X12_rulingFor_5__2 (n : Nat) (x1 : Int32) (x2 : Int32) (x3 : Int32) (x4 : Int32) (v2 : Int32) (s3 : wg_M) : Option (Int32 × wg_M) := wg_ga 295 (s3 1) v2 (q_X12_rulingFor_5__3 n x1 x2 x3 x4 s3)
def q_X12_rulingFor_5__1 (n : Nat) (x1 : Int32) (x2 : Int32) (x3 : Int32) (x4 : Int32) (σ : wg_M) (v1 : Int32) : Option (Int32 × wg_M) := if v1 ≤ x4 then (some (x3, σ)) else (wg_bd (f_X12_ruleAt 0 x1 x4 σ) (q_X12_rulingFor_5__2 n x1 x2 x3 x4))
theorem e_X12_rulingFor_5__1 (n : Nat) (x1 : Int32) (x2 : Int32) (x3 : Int32) (x4 : Int32) (σ : wg_M) (v1 : Int32) : q_X12_rulingFor_5__1 n x1 x2 x3 x4 σ v1 = if v1 ≤ x4 then (some (x3, σ)) else (wg_bd (f_X12_ruleAt 0 x1 x4 σ) (q_X12_rulingFor_5__2 n x1 x2 x3 x4)) := rfl
theorem e_X12_rulingFor_5__2 (n : Nat) (x1 : Int32) (x2 : Int32) (x3 : Int32) (x4 : Int32) (v2 : Int32) (s3 : wg_M) : q_X12_rulingFor_5__2 n x1 x2 x3 x4 v2 s3 = wg_ga 295 (s3 1) v2 (q_X12_rulingFor_5__3 n x1 x2 x3 x4 s3) := rfl
theorem e_X12_rulingFor_5__3 (n : Nat) (x1 : Int32) (x2 : Int32) (x3 : Int32) (x4 : Int32) (s3 : wg_M) (v4 : Int32) : q_X12_rulingFor_5__3 n x1 x2 x3 x4 s3 v4 = if v4 = x2 then (wg_bd (f_X12_ruleAt 0 x1 x4 s3) (q_X12_rulingFor_5__4 n x1 x2 x3 x4)) else (f_X12_rulingFor_52 (f_X12_rulingFor_5  n) 0 x1 x2 x3 x4 s3) := rfl
theorem e_X12_rulingFor_5__4 (n : Nat) (x1 : Int32) (x2 : Int32) (x3 : Int32) (x4 : Int32) (v5 : Int32) (s6 : wg_M) : q_X12_rulingFor_5__4 n x1 x2 x3 x4 v5 s6 = wg_ga 295 (s6 1) (v5 + (1 : Int32)) (q_X12_rulingFor_5__5 n x1 x2 x3 x4 s6) := rfl
theorem e_X12_rulingFor_5__5 (n : Nat) (x1 : Int32) (x2 : Int32) (x3 : Int32) (x4 : Int32) (s6 : wg_M) (v7 : Int32) : q_X12_rulingFor_5__5 n x1 x2 x3 x4 s6 v7 = wg_let (x3 + v7) (q_X12_rulingFor_5__6 n x1 x2 x4 s6) := rfl
theorem e_X12_rulingFor_5__6 (n : Nat) (x1 : Int32) (x2 : Int32) (x4 : Int32) (s6 : wg_M) (v8 : Int32) : q_X12_rulingFor_5__6 n x1 x2 x4 s6 v8 = f_X12_rulingFor_52 (f_X12_rulingFor_5  n) 0 x1 x2 v8 x4 s6 := rfl
theorem e_X12_rulingFor_5 (n : Nat) (x1 : Int32) (x2 : Int32) (x3 : Int32) (x4 : Int32) (σ : wg_M) : f_X12_rulingFor_5 (n + 1) 0 x1 x2 x3 x4 σ = wg_ga 295 (σ 1) ((67 : Int32) + x1) (q_X12_rulingFor_5__1 n x1 x2 x3 x4 σ) := by
  rw [f_X12_rulingFor_5]
  simp only [sm_n1, sm_r0_1]
  rfl
theorem e_X12_rulingFor (x1 : Int32) (x2 : Int32) (σ : wg_M) : f_X12_rulingFor 0 x1 x2 σ = f_X12_rulingFor_5  wg_N 0 x1 x2 (0 : Int32) (0 : Int32) σ := rfl
def q_X12_unlike_43__2 (k5 : Nat → Int32 → Int32 → Int32 → Int32 → wg_M → Option (Int32 × wg_M)) (x1 : Int32) (x2 : Int32) (σ : wg_M) (v1 : Int32) (v2 : Int32) : Option (Int32 × wg_M) := k5 0 x1 x2 v1 v2 σ
def q_X12_unlike_43__1 (k5 : Nat → Int32 → Int32 → Int32 → Int32 → wg_M → Option (Int32 × wg_M)) (x1 : Int32) (x2 : Int32) (x4 : Int32) (σ : wg_M) (v1 : Int32) : Option (Int32 × wg_M) := wg_let (x4 + (1 : Int32)) (q_X12_unlike_43__2 k5 x1 x2 σ v1)
theorem e_X12_unlike_43__1 (k5 : Nat → Int32 → Int32 → Int32 → Int32 → wg_M → Option (Int32 × wg_M)) (x1 : Int32) (x2 : Int32) (x4 : Int32) (σ : wg_M) (v1 : Int32) : q_X12_unlike_43__1 k5 x1 x2 x4 σ v1 = wg_let (x4 + (1 : Int32)) (q_X12_unlike_43__2 k5 x1 x2 σ v1) := rfl
theorem e_X12_unlike_43__2 (k5 : Nat → Int32 → Int32 → Int32 → Int32 → wg_M → Option (Int32 × wg_M)) (x1 : Int32) (x2 : Int32) (σ : wg_M) (v1 : Int32) (v2 : Int32) : q_X12_unlike_43__2 k5 x1 x2 σ v1 v2 = k5 0 x1 x2 v1 v2 σ := rfl
theorem e_X12_unlike_43 (k5 : Nat → Int32 → Int32 → Int32 → Int32 → wg_M → Option (Int32 × wg_M)) (x1 : Int32) (x2 : Int32) (x4 : Int32) (t0 : Int32) (t1 : Int32) (σ : wg_M) : f_X12_unlike_43 k5 0 x1 x2 x4 t0 t1 σ = wg_let (t1 + t0) (q_X12_unlike_43__1 k5 x1 x2 x4 σ) := rfl
def q_X12_unlike_5__3 (n : Nat) (x1 : Int32) (x2 : Int32) (x3 : Int32) (x4 : Int32) (s4 : wg_M) (v5 : Int32) : Option (Int32 × wg_M) := if 0 ≤ v5 then (f_X12_unlike_43 (f_X12_unlike_5  n) 0 x1 x2 x4 v5 x3 s4) else (f_X12_unlike_43 (f_X12_unlike_5  n) 0 x1 x2 x4 (-v5) x3 s4)
def q_X12_unlike_5__2 (n : Nat) (x1 : Int32) (x2 : Int32) (x3 : Int32) (x4 : Int32) (v1 : Int32) (v3 : Int32) (s4 : wg_M) : Option (Int32 × wg_M) := wg_let (v1 - v3) (q_X12_unlike_5__3 n x1 x2 x3 x4 s4)
def q_X12_unlike_5__1 (n : Nat) (x1 : Int32) (x2 : Int32) (x3 : Int32) (x4 : Int32) (v1 : Int32) (s2 : wg_M) : Option (Int32 × wg_M) := wg_bd (f_X12_rulingFor 0 x2 x4 s2) (q_X12_unlike_5__2 n x1 x2 x3 x4 v1)
theorem e_X12_unlike_5__1 (n : Nat) (x1 : Int32) (x2 : Int32) (x3 : Int32) (x4 : Int32) (v1 : Int32) (s2 : wg_M) : q_X12_unlike_5__1 n x1 x2 x3 x4 v1 s2 = wg_bd (f_X12_rulingFor 0 x2 x4 s2) (q_X12_unlike_5__2 n x1 x2 x3 x4 v1) := rfl
theorem e_X12_unlike_5__2 (n : Nat) (x1 : Int32) (x2 : Int32) (x3 : Int32) (x4 : Int32) (v1 : Int32) (v3 : Int32) (s4 : wg_M) : q_X12_unlike_5__2 n x1 x2 x3 x4 v1 v3 s4 = wg_let (v1 - v3) (q_X12_unlike_5__3 n x1 x2 x3 x4 s4) := rfl
theorem e_X12_unlike_5__3 (n : Nat) (x1 : Int32) (x2 : Int32) (x3 : Int32) (x4 : Int32) (s4 : wg_M) (v5 : Int32) : q_X12_unlike_5__3 n x1 x2 x3 x4 s4 v5 = if 0 ≤ v5 then (f_X12_unlike_43 (f_X12_unlike_5  n) 0 x1 x2 x4 v5 x3 s4) else (f_X12_unlike_43 (f_X12_unlike_5  n) 0 x1 x2 x4 (-v5) x3 s4) := rfl
theorem e_X12_unlike_5 (n : Nat) (x1 : Int32) (x2 : Int32) (x3 : Int32) (x4 : Int32) (σ : wg_M) : f_X12_unlike_5 (n + 1) 0 x1 x2 x3 x4 σ = if (8 : Int32) ≤ x4 then (some (x3, σ)) else (wg_bd (f_X12_rulingFor 0 x1 x4 σ) (q_X12_unlike_5__1 n x1 x2 x3 x4)) := by
  rw [f_X12_unlike_5]
  rfl
theorem e_X12_unlike (x1 : Int32) (x2 : Int32) (σ : wg_M) : f_X12_unlike 0 x1 x2 σ = f_X12_unlike_5  wg_N 0 x1 x2 (0 : Int32) (0 : Int32) σ := rfl
def q_X12_alike_84__1 (k45 : Nat → Int32 → Int32 → Int32 → wg_M → Option (Int32 × wg_M)) (x1 : Int32) (x3 : Int32) (σ : wg_M) (v1 : Int32) : Option (Int32 × wg_M) := k45 0 x1 x3 v1 σ
theorem e_X12_alike_84__1 (k45 : Nat → Int32 → Int32 → Int32 → wg_M → Option (Int32 × wg_M)) (x1 : Int32) (x3 : Int32) (σ : wg_M) (v1 : Int32) : q_X12_alike_84__1 k45 x1 x3 σ v1 = k45 0 x1 x3 v1 σ := rfl
theorem e_X12_alike_84 (k45 : Nat → Int32 → Int32 → Int32 → wg_M → Option (Int32 × wg_M)) (x1 : Int32) (x3 : Int32) (x4 : Int32) (σ : wg_M) : f_X12_alike_84 k45 0 x1 x3 x4 σ = wg_let (x4 + (1 : Int32)) (q_X12_alike_84__1 k45 x1 x3 σ) := rfl
theorem e_X12_alike_81 (k45 : Nat → Int32 → Int32 → Int32 → wg_M → Option (Int32 × wg_M)) (x1 : Int32) (x4 : Int32) (σ : wg_M) : f_X12_alike_81 k45 0 x1 x4 σ = f_X12_alike_84 k45 0 x1 x4 x4 σ := rfl
def q_X12_alike_45__2 (n : Nat) (x1 : Int32) (x3 : Int32) (x4 : Int32) (v1 : Int32) (v3 : Int32) (s4 : wg_M) : Option (Int32 × wg_M) := if v3 ≤ v1 then (f_X12_alike_84 (f_X12_alike_45  n) 0 x1 x3 x4 s4) else (f_X12_alike_81 (f_X12_alike_45  n) 0 x1 x4 s4)
def q_X12_alike_45__1 (n : Nat) (x1 : Int32) (x3 : Int32) (x4 : Int32) (v1 : Int32) (s2 : wg_M) : Option (Int32 × wg_M) := wg_bd (f_X12_unlike 0 x1 x3 s2) (q_X12_alike_45__2 n x1 x3 x4 v1)
theorem e_X12_alike_45__1 (n : Nat) (x1 : Int32) (x3 : Int32) (x4 : Int32) (v1 : Int32) (s2 : wg_M) : q_X12_alike_45__1 n x1 x3 x4 v1 s2 = wg_bd (f_X12_unlike 0 x1 x3 s2) (q_X12_alike_45__2 n x1 x3 x4 v1) := rfl
theorem e_X12_alike_45__2 (n : Nat) (x1 : Int32) (x3 : Int32) (x4 : Int32) (v1 : Int32) (v3 : Int32) (s4 : wg_M) : q_X12_alike_45__2 n x1 x3 x4 v1 v3 s4 = if v3 ≤ v1 then (f_X12_alike_84 (f_X12_alike_45  n) 0 x1 x3 x4 s4) else (f_X12_alike_81 (f_X12_alike_45  n) 0 x1 x4 s4) := rfl
theorem e_X12_alike_45 (n : Nat) (x1 : Int32) (x3 : Int32) (x4 : Int32) (σ : wg_M) : f_X12_alike_45 (n + 1) 0 x1 x3 x4 σ = if (σ 0 6) ≤ x4 then (some (x3, σ)) else (if x4 = x1 then (f_X12_alike_84 (f_X12_alike_45  n) 0 x1 x3 x4 σ) else (if x3 = (-1 : Int32) then (f_X12_alike_81 (f_X12_alike_45  n) 0 x1 x4 σ) else (wg_bd (f_X12_unlike 0 x1 x4 σ) (q_X12_alike_45__1 n x1 x3 x4)))) := by
  rw [f_X12_alike_45]
  rfl
def q_X12_alike_28__1 (v1 : Int32) (s2 : wg_M) : Option (Int32 × wg_M) := some (v1, s2)
theorem e_X12_alike_28__1 (v1 : Int32) (s2 : wg_M) : q_X12_alike_28__1 v1 s2 = some (v1, s2) := rfl
theorem e_X12_alike_28 (x1 : Int32) (x2 : Int32) (σ : wg_M) : f_X12_alike_28 0 x1 x2 σ = if x2 = (-1 : Int32) then (f_X12_alike_45  wg_N 0 x1 (-1 : Int32) (0 : Int32) σ) else (wg_bd (f_X12_unlike 0 x1 x2 σ) q_X12_alike_28__1) := rfl
def q_X12_alike__3 (x1 : Int32) (x2 : Int32) (v4 : Int32) (s5 : wg_M) : Option (Int32 × wg_M) := if v4 = 0 then (some ((-1 : Int32), s5)) else (f_X12_alike_28  0 x1 x2 s5)
def q_X12_alike__2 (x1 : Int32) (x2 : Int32) (v2 : Int32) (s3 : wg_M) : Option (Int32 × wg_M) := if v2 = 0 then (some ((-1 : Int32), s3)) else (if x2 = (-1 : Int32) then (f_X12_alike_28  0 x1 x2 s3) else (wg_bd (f_X12_isWig 0 x2 s3) (q_X12_alike__3 x1 x2)))
def q_X12_alike__1 (x1 : Int32) (x2 : Int32) (s1 : wg_M) : Option (Int32 × wg_M) := wg_bd (f_X12_isWig 0 x1 s1) (q_X12_alike__2 x1 x2)
theorem e_X12_alike__1 (x1 : Int32) (x2 : Int32) (s1 : wg_M) : q_X12_alike__1 x1 x2 s1 = wg_bd (f_X12_isWig 0 x1 s1) (q_X12_alike__2 x1 x2) := rfl
theorem e_X12_alike__2 (x1 : Int32) (x2 : Int32) (v2 : Int32) (s3 : wg_M) : q_X12_alike__2 x1 x2 v2 s3 = if v2 = 0 then (some ((-1 : Int32), s3)) else (if x2 = (-1 : Int32) then (f_X12_alike_28  0 x1 x2 s3) else (wg_bd (f_X12_isWig 0 x2 s3) (q_X12_alike__3 x1 x2))) := rfl
theorem e_X12_alike__3 (x1 : Int32) (x2 : Int32) (v4 : Int32) (s5 : wg_M) : q_X12_alike__3 x1 x2 v4 s5 = if v4 = 0 then (some ((-1 : Int32), s5)) else (f_X12_alike_28  0 x1 x2 s5) := rfl
theorem e_X12_alike (x1 : Int32) (x2 : Int32) (σ : wg_M) : f_X12_alike 0 x1 x2 σ = wg_st σ 0 0 (0 : Int32) (q_X12_alike__1 x1 x2) := rfl
def q_X12_heir_70__2 (v1 : Int32) (_u2 : Int32) (s3 : wg_M) : Option (Int32 × wg_M) := some (v1, s3)
def q_X12_heir_70__1 (v1 : Int32) (s2 : wg_M) : Option (Int32 × wg_M) := wg_bd (f_X12_endsThought 0 s2) (q_X12_heir_70__2 v1)
theorem e_X12_heir_70__1 (v1 : Int32) (s2 : wg_M) : q_X12_heir_70__1 v1 s2 = wg_bd (f_X12_endsThought 0 s2) (q_X12_heir_70__2 v1) := rfl
theorem e_X12_heir_70__2 (v1 : Int32) (_u2 : Int32) (s3 : wg_M) : q_X12_heir_70__2 v1 _u2 s3 = some (v1, s3) := rfl
theorem e_X12_heir_70 (x1 : Int32) (σ : wg_M) : f_X12_heir_70 0 x1 σ = wg_bd (f_X12_wearerOf 0 x1 σ) q_X12_heir_70__1 := rfl
def q_X12_heir_41__4 (n : Nat) (x1 : Int32) (x2 : Int32) (s5 : wg_M) (v6 : Int32) : Option (Int32 × wg_M) := f_X12_heir_41  n 0 x1 x2 v6 s5
def q_X12_heir_41__3 (n : Nat) (x1 : Int32) (x2 : Int32) (x3 : Int32) (_u3 : Int32) (s5 : wg_M) : Option (Int32 × wg_M) := wg_let (x3 + (1 : Int32)) (q_X12_heir_41__4 n x1 x2 s5)
def q_X12_heir_41__2 (n : Nat) (x1 : Int32) (x2 : Int32) (x3 : Int32) (v3 : Int32) (s4 : wg_M) : Option (Int32 × wg_M) := wg_bd (f_X12_dies 0 v3 s4) (q_X12_heir_41__3 n x1 x2 x3)
def q_X12_heir_41__1 (n : Nat) (x1 : Int32) (x2 : Int32) (x3 : Int32) (v1 : Int32) (s2 : wg_M) : Option (Int32 × wg_M) := if v1 = (-1 : Int32) then (f_X12_heir_70  0 x1 s2) else (wg_bd (f_X12_wearerOf 0 x1 s2) (q_X12_heir_41__2 n x1 x2 x3))
theorem e_X12_heir_41__1 (n : Nat) (x1 : Int32) (x2 : Int32) (x3 : Int32) (v1 : Int32) (s2 : wg_M) : q_X12_heir_41__1 n x1 x2 x3 v1 s2 = if v1 = (-1 : Int32) then (f_X12_heir_70  0 x1 s2) else (wg_bd (f_X12_wearerOf 0 x1 s2) (q_X12_heir_41__2 n x1 x2 x3)) := rfl
theorem e_X12_heir_41__2 (n : Nat) (x1 : Int32) (x2 : Int32) (x3 : Int32) (v3 : Int32) (s4 : wg_M) : q_X12_heir_41__2 n x1 x2 x3 v3 s4 = wg_bd (f_X12_dies 0 v3 s4) (q_X12_heir_41__3 n x1 x2 x3) := rfl
theorem e_X12_heir_41__3 (n : Nat) (x1 : Int32) (x2 : Int32) (x3 : Int32) (_u3 : Int32) (s5 : wg_M) : q_X12_heir_41__3 n x1 x2 x3 _u3 s5 = wg_let (x3 + (1 : Int32)) (q_X12_heir_41__4 n x1 x2 s5) := rfl
theorem e_X12_heir_41__4 (n : Nat) (x1 : Int32) (x2 : Int32) (s5 : wg_M) (v6 : Int32) : q_X12_heir_41__4 n x1 x2 s5 v6 = f_X12_heir_41  n 0 x1 x2 v6 s5 := rfl
theorem e_X12_heir_41 (n : Nat) (x1 : Int32) (x2 : Int32) (x3 : Int32) (σ : wg_M) : f_X12_heir_41 (n + 1) 0 x1 x2 x3 σ = if x2 ≤ x3 then (f_X12_heir_70  0 x1 σ) else (wg_bd (f_X12_wearerOf 0 x1 σ) (q_X12_heir_41__1 n x1 x2 x3)) := by
  rw [f_X12_heir_41]
  rfl
def q_X12_heir__5 (x1 : Int32) (x2 : Int32) (_u5 : Int32) (s8 : wg_M) : Option (Int32 × wg_M) := f_X12_heir_41  wg_N 0 x1 x2 (0 : Int32) s8
def q_X12_heir__4 (x1 : Int32) (x2 : Int32) (v6 : Int32) (s7 : wg_M) : Option (Int32 × wg_M) := if v6 = (-1 : Int32) then (some ((-1 : Int32), s7)) else (wg_bd (f_X12_thinks 0 s7) (q_X12_heir__5 x1 x2))
def q_X12_heir__3 (x1 : Int32) (x2 : Int32) (v4 : Int32) (s5 : wg_M) : Option (Int32 × wg_M) := if v4 = 0 then (some ((-1 : Int32), s5)) else (wg_bd (f_X12_wearerOf 0 x1 s5) (q_X12_heir__4 x1 x2))
def q_X12_heir__2 (x1 : Int32) (x2 : Int32) (v2 : Int32) (s3 : wg_M) : Option (Int32 × wg_M) := if v2 = 0 then (some ((-1 : Int32), s3)) else (wg_bd (f_X12_isIn 0 x2 (1 : Int32) (9 : Int32) s3) (q_X12_heir__3 x1 x2))
def q_X12_heir__1 (x1 : Int32) (x2 : Int32) (s1 : wg_M) : Option (Int32 × wg_M) := wg_bd (f_X12_isWig 0 x1 s1) (q_X12_heir__2 x1 x2)
theorem e_X12_heir__1 (x1 : Int32) (x2 : Int32) (s1 : wg_M) : q_X12_heir__1 x1 x2 s1 = wg_bd (f_X12_isWig 0 x1 s1) (q_X12_heir__2 x1 x2) := rfl
theorem e_X12_heir__2 (x1 : Int32) (x2 : Int32) (v2 : Int32) (s3 : wg_M) : q_X12_heir__2 x1 x2 v2 s3 = if v2 = 0 then (some ((-1 : Int32), s3)) else (wg_bd (f_X12_isIn 0 x2 (1 : Int32) (9 : Int32) s3) (q_X12_heir__3 x1 x2)) := rfl
theorem e_X12_heir__3 (x1 : Int32) (x2 : Int32) (v4 : Int32) (s5 : wg_M) : q_X12_heir__3 x1 x2 v4 s5 = if v4 = 0 then (some ((-1 : Int32), s5)) else (wg_bd (f_X12_wearerOf 0 x1 s5) (q_X12_heir__4 x1 x2)) := rfl
theorem e_X12_heir__4 (x1 : Int32) (x2 : Int32) (v6 : Int32) (s7 : wg_M) : q_X12_heir__4 x1 x2 v6 s7 = if v6 = (-1 : Int32) then (some ((-1 : Int32), s7)) else (wg_bd (f_X12_thinks 0 s7) (q_X12_heir__5 x1 x2)) := rfl
theorem e_X12_heir__5 (x1 : Int32) (x2 : Int32) (_u5 : Int32) (s8 : wg_M) : q_X12_heir__5 x1 x2 _u5 s8 = f_X12_heir_41  wg_N 0 x1 x2 (0 : Int32) s8 := rfl
theorem e_X12_heir (x1 : Int32) (x2 : Int32) (σ : wg_M) : f_X12_heir 0 x1 x2 σ = wg_st σ 0 0 (0 : Int32) (q_X12_heir__1 x1 x2) := rfl
def q_X12_afterOf__1 (σ : wg_M) (v1 : Int32) : Option (Int32 × wg_M) := some (v1 - (1 : Int32), σ)
theorem e_X12_afterOf__1 (σ : wg_M) (v1 : Int32) : q_X12_afterOf__1 σ v1 = some (v1 - (1 : Int32), σ) := rfl
theorem e_X12_afterOf (x1 : Int32) (σ : wg_M) : f_X12_afterOf 0 x1 σ = wg_ga 16 (σ 21) x1 (q_X12_afterOf__1 σ) := by
  unfold f_X12_afterOf
  simp only [sm_n21, sm_r0_42]
  rfl
def q_X12_backFrom_4__3 (n : Nat) (v3 : Int32) (v4 : Int32) (s5 : wg_M) : Option (Int32 × wg_M) := f_X12_backFrom_4  n 0 v3 v4 s5
def q_X12_backFrom_4__2 (n : Nat) (x3 : Int32) (s2 : wg_M) (v3 : Int32) : Option (Int32 × wg_M) := wg_bd (f_X12_afterOf 0 x3 s2) (q_X12_backFrom_4__3 n v3)
def q_X12_backFrom_4__1 (n : Nat) (x2 : Int32) (x3 : Int32) (v1 : Int32) (s2 : wg_M) : Option (Int32 × wg_M) := if v1 = 0 then (wg_let (x2 ||| ((1 : Int32) <<< (x3 &&& 31))) (q_X12_backFrom_4__2 n x3 s2)) else (some (x2, s2))
theorem e_X12_backFrom_4__1 (n : Nat) (x2 : Int32) (x3 : Int32) (v1 : Int32) (s2 : wg_M) : q_X12_backFrom_4__1 n x2 x3 v1 s2 = if v1 = 0 then (wg_let (x2 ||| ((1 : Int32) <<< (x3 &&& 31))) (q_X12_backFrom_4__2 n x3 s2)) else (some (x2, s2)) := rfl
theorem e_X12_backFrom_4__2 (n : Nat) (x3 : Int32) (s2 : wg_M) (v3 : Int32) : q_X12_backFrom_4__2 n x3 s2 v3 = wg_bd (f_X12_afterOf 0 x3 s2) (q_X12_backFrom_4__3 n v3) := rfl
theorem e_X12_backFrom_4__3 (n : Nat) (v3 : Int32) (v4 : Int32) (s5 : wg_M) : q_X12_backFrom_4__3 n v3 v4 s5 = f_X12_backFrom_4  n 0 v3 v4 s5 := rfl
theorem e_X12_backFrom_4 (n : Nat) (x2 : Int32) (x3 : Int32) (σ : wg_M) : f_X12_backFrom_4 (n + 1) 0 x2 x3 σ = if x3 = (-1 : Int32) then (some (x2, σ)) else (wg_bd (f_X12_has 0 x2 x3 σ) (q_X12_backFrom_4__1 n x2 x3)) := by
  rw [f_X12_backFrom_4]
  rfl
theorem e_X12_backFrom (x1 : Int32) (σ : wg_M) : f_X12_backFrom 0 x1 σ = f_X12_backFrom_4  wg_N 0 (0 : Int32) x1 σ := rfl
def q_X12_rootOf_6__4 (n : Nat) (v3 : Int32) (s6 : wg_M) (v7 : Int32) : Option (Int32 × wg_M) := f_X12_rootOf_6  n 0 v7 v3 s6
def q_X12_rootOf_6__3 (n : Nat) (x2 : Int32) (v3 : Int32) (v5 : Int32) (s6 : wg_M) : Option (Int32 × wg_M) := if v5 = 0 then (wg_let (x2 ||| ((1 : Int32) <<< (v3 &&& 31))) (q_X12_rootOf_6__4 n v3 s6)) else (some (v3, s6))
def q_X12_rootOf_6__2 (n : Nat) (x2 : Int32) (v3 : Int32) (s4 : wg_M) : Option (Int32 × wg_M) := wg_bd (f_X12_has 0 x2 v3 s4) (q_X12_rootOf_6__3 n x2 v3)
def q_X12_rootOf_6__1 (n : Nat) (x2 : Int32) (x3 : Int32) (v1 : Int32) (s2 : wg_M) : Option (Int32 × wg_M) := if v1 = (-1 : Int32) then (some (x3, s2)) else (wg_bd (f_X12_afterOf 0 x3 s2) (q_X12_rootOf_6__2 n x2))
theorem e_X12_rootOf_6__1 (n : Nat) (x2 : Int32) (x3 : Int32) (v1 : Int32) (s2 : wg_M) : q_X12_rootOf_6__1 n x2 x3 v1 s2 = if v1 = (-1 : Int32) then (some (x3, s2)) else (wg_bd (f_X12_afterOf 0 x3 s2) (q_X12_rootOf_6__2 n x2)) := rfl
theorem e_X12_rootOf_6__2 (n : Nat) (x2 : Int32) (v3 : Int32) (s4 : wg_M) : q_X12_rootOf_6__2 n x2 v3 s4 = wg_bd (f_X12_has 0 x2 v3 s4) (q_X12_rootOf_6__3 n x2 v3) := rfl
theorem e_X12_rootOf_6__3 (n : Nat) (x2 : Int32) (v3 : Int32) (v5 : Int32) (s6 : wg_M) : q_X12_rootOf_6__3 n x2 v3 v5 s6 = if v5 = 0 then (wg_let (x2 ||| ((1 : Int32) <<< (v3 &&& 31))) (q_X12_rootOf_6__4 n v3 s6)) else (some (v3, s6)) := rfl
theorem e_X12_rootOf_6__4 (n : Nat) (v3 : Int32) (s6 : wg_M) (v7 : Int32) : q_X12_rootOf_6__4 n v3 s6 v7 = f_X12_rootOf_6  n 0 v7 v3 s6 := rfl
theorem e_X12_rootOf_6 (n : Nat) (x2 : Int32) (x3 : Int32) (σ : wg_M) : f_X12_rootOf_6 (n + 1) 0 x2 x3 σ = wg_bd (f_X12_afterOf 0 x3 σ) (q_X12_rootOf_6__1 n x2 x3) := by
  rw [f_X12_rootOf_6]
  rfl
def q_X12_rootOf__1 (x1 : Int32) (σ : wg_M) (v1 : Int32) : Option (Int32 × wg_M) := f_X12_rootOf_6  wg_N 0 v1 x1 σ
theorem e_X12_rootOf__1 (x1 : Int32) (σ : wg_M) (v1 : Int32) : q_X12_rootOf__1 x1 σ v1 = f_X12_rootOf_6  wg_N 0 v1 x1 σ := rfl
theorem e_X12_rootOf (x1 : Int32) (σ : wg_M) : f_X12_rootOf 0 x1 σ = wg_let ((1 : Int32) <<< (x1 &&& 31)) (q_X12_rootOf__1 x1 σ) := rfl
def q_X12_commonOf_12__4 (n : Nat) (x3 : Int32) (v5 : Int32) (v6 : Int32) (s7 : wg_M) : Option (Int32 × wg_M) := f_X12_commonOf_12  n 0 x3 v5 v6 s7
def q_X12_commonOf_12__3 (n : Nat) (x3 : Int32) (x5 : Int32) (s4 : wg_M) (v5 : Int32) : Option (Int32 × wg_M) := wg_bd (f_X12_afterOf 0 x5 s4) (q_X12_commonOf_12__4 n x3 v5)
def q_X12_commonOf_12__2 (n : Nat) (x3 : Int32) (x4 : Int32) (x5 : Int32) (v3 : Int32) (s4 : wg_M) : Option (Int32 × wg_M) := if v3 = 0 then (wg_let (x4 ||| ((1 : Int32) <<< (x5 &&& 31))) (q_X12_commonOf_12__3 n x3 x5 s4)) else (some (x5, s4))
def q_X12_commonOf_12__1 (n : Nat) (x3 : Int32) (x4 : Int32) (x5 : Int32) (v1 : Int32) (s2 : wg_M) : Option (Int32 × wg_M) := if v1 = 0 then (wg_bd (f_X12_has 0 x3 x5 s2) (q_X12_commonOf_12__2 n x3 x4 x5)) else (some ((-1 : Int32), s2))
theorem e_X12_commonOf_12__1 (n : Nat) (x3 : Int32) (x4 : Int32) (x5 : Int32) (v1 : Int32) (s2 : wg_M) : q_X12_commonOf_12__1 n x3 x4 x5 v1 s2 = if v1 = 0 then (wg_bd (f_X12_has 0 x3 x5 s2) (q_X12_commonOf_12__2 n x3 x4 x5)) else (some ((-1 : Int32), s2)) := rfl
theorem e_X12_commonOf_12__2 (n : Nat) (x3 : Int32) (x4 : Int32) (x5 : Int32) (v3 : Int32) (s4 : wg_M) : q_X12_commonOf_12__2 n x3 x4 x5 v3 s4 = if v3 = 0 then (wg_let (x4 ||| ((1 : Int32) <<< (x5 &&& 31))) (q_X12_commonOf_12__3 n x3 x5 s4)) else (some (x5, s4)) := rfl
theorem e_X12_commonOf_12__3 (n : Nat) (x3 : Int32) (x5 : Int32) (s4 : wg_M) (v5 : Int32) : q_X12_commonOf_12__3 n x3 x5 s4 v5 = wg_bd (f_X12_afterOf 0 x5 s4) (q_X12_commonOf_12__4 n x3 v5) := rfl
theorem e_X12_commonOf_12__4 (n : Nat) (x3 : Int32) (v5 : Int32) (v6 : Int32) (s7 : wg_M) : q_X12_commonOf_12__4 n x3 v5 v6 s7 = f_X12_commonOf_12  n 0 x3 v5 v6 s7 := rfl
theorem e_X12_commonOf_12 (n : Nat) (x3 : Int32) (x4 : Int32) (x5 : Int32) (σ : wg_M) : f_X12_commonOf_12 (n + 1) 0 x3 x4 x5 σ = if x5 = (-1 : Int32) then (some ((-1 : Int32), σ)) else (wg_bd (f_X12_has 0 x4 x5 σ) (q_X12_commonOf_12__1 n x3 x4 x5)) := by
  rw [f_X12_commonOf_12]
  rfl
def q_X12_commonOf__1 (x1 : Int32) (v1 : Int32) (s2 : wg_M) : Option (Int32 × wg_M) := f_X12_commonOf_12  wg_N 0 v1 (0 : Int32) x1 s2
theorem e_X12_commonOf__1 (x1 : Int32) (v1 : Int32) (s2 : wg_M) : q_X12_commonOf__1 x1 v1 s2 = f_X12_commonOf_12  wg_N 0 v1 (0 : Int32) x1 s2 := rfl
theorem e_X12_commonOf (x1 : Int32) (x2 : Int32) (σ : wg_M) : f_X12_commonOf 0 x1 x2 σ = wg_bd (f_X12_backFrom 0 x2 σ) (q_X12_commonOf__1 x1) := rfl
def q_X12_kin_28__2 (v1 : Int32) (s2 : wg_M) : Option (Int32 × wg_M) := some (v1, s2)
def q_X12_kin_28__1 (v3 : Int32) (s4 : wg_M) : Option (Int32 × wg_M) := some (v3, s4)
theorem e_X12_kin_28__1 (v3 : Int32) (s4 : wg_M) : q_X12_kin_28__1 v3 s4 = some (v3, s4) := rfl
theorem e_X12_kin_28__2 (v1 : Int32) (s2 : wg_M) : q_X12_kin_28__2 v1 s2 = some (v1, s2) := rfl
theorem e_X12_kin_28 (x1 : Int32) (x2 : Int32) (σ : wg_M) : f_X12_kin_28 0 x1 x2 σ = if x2 = (-1 : Int32) then (wg_bd (f_X12_rootOf 0 x1 σ) q_X12_kin_28__1) else (wg_bd (f_X12_commonOf 0 x1 x2 σ) q_X12_kin_28__2) := rfl
def q_X12_kin__3 (x1 : Int32) (x2 : Int32) (v4 : Int32) (s5 : wg_M) : Option (Int32 × wg_M) := if v4 = 0 then (some ((-1 : Int32), s5)) else (f_X12_kin_28  0 x1 x2 s5)
def q_X12_kin__2 (x1 : Int32) (x2 : Int32) (v2 : Int32) (s3 : wg_M) : Option (Int32 × wg_M) := if v2 = 0 then (some ((-1 : Int32), s3)) else (if x2 = (-1 : Int32) then (f_X12_kin_28  0 x1 x2 s3) else (wg_bd (f_X12_isWig 0 x2 s3) (q_X12_kin__3 x1 x2)))
def q_X12_kin__1 (x1 : Int32) (x2 : Int32) (s1 : wg_M) : Option (Int32 × wg_M) := wg_bd (f_X12_isWig 0 x1 s1) (q_X12_kin__2 x1 x2)
theorem e_X12_kin__1 (x1 : Int32) (x2 : Int32) (s1 : wg_M) : q_X12_kin__1 x1 x2 s1 = wg_bd (f_X12_isWig 0 x1 s1) (q_X12_kin__2 x1 x2) := rfl
theorem e_X12_kin__2 (x1 : Int32) (x2 : Int32) (v2 : Int32) (s3 : wg_M) : q_X12_kin__2 x1 x2 v2 s3 = if v2 = 0 then (some ((-1 : Int32), s3)) else (if x2 = (-1 : Int32) then (f_X12_kin_28  0 x1 x2 s3) else (wg_bd (f_X12_isWig 0 x2 s3) (q_X12_kin__3 x1 x2))) := rfl
theorem e_X12_kin__3 (x1 : Int32) (x2 : Int32) (v4 : Int32) (s5 : wg_M) : q_X12_kin__3 x1 x2 v4 s5 = if v4 = 0 then (some ((-1 : Int32), s5)) else (f_X12_kin_28  0 x1 x2 s5) := rfl
theorem e_X12_kin (x1 : Int32) (x2 : Int32) (σ : wg_M) : f_X12_kin 0 x1 x2 σ = wg_st σ 0 0 (0 : Int32) (q_X12_kin__1 x1 x2) := rfl
def q_X12_hairOf_33__1 (k4 : Nat → Int32 → Int32 → Int32 → wg_M → Option (Int32 × wg_M)) (x1 : Int32) (x2 : Int32) (σ : wg_M) (v1 : Int32) : Option (Int32 × wg_M) := k4 0 x1 x2 v1 σ
theorem e_X12_hairOf_33__1 (k4 : Nat → Int32 → Int32 → Int32 → wg_M → Option (Int32 × wg_M)) (x1 : Int32) (x2 : Int32) (σ : wg_M) (v1 : Int32) : q_X12_hairOf_33__1 k4 x1 x2 σ v1 = k4 0 x1 x2 v1 σ := rfl
theorem e_X12_hairOf_33 (k4 : Nat → Int32 → Int32 → Int32 → wg_M → Option (Int32 × wg_M)) (x1 : Int32) (x2 : Int32) (x3 : Int32) (σ : wg_M) : f_X12_hairOf_33 k4 0 x1 x2 x3 σ = wg_let (x3 + (1 : Int32)) (q_X12_hairOf_33__1 k4 x1 x2 σ) := rfl
def q_X12_hairOf_4__3 (n : Nat) (x1 : Int32) (x3 : Int32) (s2 : wg_M) (v4 : Int32) : Option (Int32 × wg_M) := f_X12_hairOf_33 (f_X12_hairOf_4  n) 0 x1 v4 x3 s2
def q_X12_hairOf_4__2 (n : Nat) (x1 : Int32) (x2 : Int32) (x3 : Int32) (s2 : wg_M) (v3 : Int32) : Option (Int32 × wg_M) := wg_let (x2 + v3) (q_X12_hairOf_4__3 n x1 x3 s2)
def q_X12_hairOf_4__1 (n : Nat) (x1 : Int32) (x2 : Int32) (x3 : Int32) (v1 : Int32) (s2 : wg_M) : Option (Int32 × wg_M) := if v1 = 0 then (f_X12_hairOf_33 (f_X12_hairOf_4  n) 0 x1 x2 x3 s2) else (wg_ga 295 (s2 1) ((43 : Int32) + x3) (q_X12_hairOf_4__2 n x1 x2 x3 s2))
theorem e_X12_hairOf_4__1 (n : Nat) (x1 : Int32) (x2 : Int32) (x3 : Int32) (v1 : Int32) (s2 : wg_M) : q_X12_hairOf_4__1 n x1 x2 x3 v1 s2 = if v1 = 0 then (f_X12_hairOf_33 (f_X12_hairOf_4  n) 0 x1 x2 x3 s2) else (wg_ga 295 (s2 1) ((43 : Int32) + x3) (q_X12_hairOf_4__2 n x1 x2 x3 s2)) := rfl
theorem e_X12_hairOf_4__2 (n : Nat) (x1 : Int32) (x2 : Int32) (x3 : Int32) (s2 : wg_M) (v3 : Int32) : q_X12_hairOf_4__2 n x1 x2 x3 s2 v3 = wg_let (x2 + v3) (q_X12_hairOf_4__3 n x1 x3 s2) := rfl
theorem e_X12_hairOf_4__3 (n : Nat) (x1 : Int32) (x3 : Int32) (s2 : wg_M) (v4 : Int32) : q_X12_hairOf_4__3 n x1 x3 s2 v4 = f_X12_hairOf_33 (f_X12_hairOf_4  n) 0 x1 v4 x3 s2 := rfl
theorem e_X12_hairOf_4 (n : Nat) (x1 : Int32) (x2 : Int32) (x3 : Int32) (σ : wg_M) : f_X12_hairOf_4 (n + 1) 0 x1 x2 x3 σ = if (σ 0 6) ≤ x3 then (some (x2, σ)) else (wg_bd (f_X12_has 0 x1 x3 σ) (q_X12_hairOf_4__1 n x1 x2 x3)) := by
  rw [f_X12_hairOf_4]
  simp only [sm_n1, sm_r0_1]
  rfl
theorem e_X12_hairOf (x1 : Int32) (σ : wg_M) : f_X12_hairOf 0 x1 σ = f_X12_hairOf_4  wg_N 0 x1 (0 : Int32) (0 : Int32) σ := rfl
def q_X12_savedBy_49__1 (k4 : Nat → Int32 → Int32 → Int32 → wg_M → Option (Int32 × wg_M)) (x1 : Int32) (x2 : Int32) (σ : wg_M) (v1 : Int32) : Option (Int32 × wg_M) := k4 0 x1 x2 v1 σ
theorem e_X12_savedBy_49__1 (k4 : Nat → Int32 → Int32 → Int32 → wg_M → Option (Int32 × wg_M)) (x1 : Int32) (x2 : Int32) (σ : wg_M) (v1 : Int32) : q_X12_savedBy_49__1 k4 x1 x2 σ v1 = k4 0 x1 x2 v1 σ := rfl
theorem e_X12_savedBy_49 (k4 : Nat → Int32 → Int32 → Int32 → wg_M → Option (Int32 × wg_M)) (x1 : Int32) (x2 : Int32) (x3 : Int32) (σ : wg_M) : f_X12_savedBy_49 k4 0 x1 x2 x3 σ = wg_let (x3 + (1 : Int32)) (q_X12_savedBy_49__1 k4 x1 x2 σ) := rfl
def q_X12_savedBy_47__1 (k4 : Nat → Int32 → Int32 → Int32 → wg_M → Option (Int32 × wg_M)) (x1 : Int32) (x3 : Int32) (σ : wg_M) (v1 : Int32) : Option (Int32 × wg_M) := f_X12_savedBy_49 k4 0 x1 v1 x3 σ
theorem e_X12_savedBy_47__1 (k4 : Nat → Int32 → Int32 → Int32 → wg_M → Option (Int32 × wg_M)) (x1 : Int32) (x3 : Int32) (σ : wg_M) (v1 : Int32) : q_X12_savedBy_47__1 k4 x1 x3 σ v1 = f_X12_savedBy_49 k4 0 x1 v1 x3 σ := rfl
theorem e_X12_savedBy_47 (k4 : Nat → Int32 → Int32 → Int32 → wg_M → Option (Int32 × wg_M)) (x1 : Int32) (x3 : Int32) (t0 : Int32) (t1 : Int32) (σ : wg_M) : f_X12_savedBy_47 k4 0 x1 x3 t0 t1 σ = wg_let (t1 + t0) (q_X12_savedBy_47__1 k4 x1 x3 σ) := rfl
def q_X12_savedBy_4__3 (n : Nat) (x1 : Int32) (x2 : Int32) (x3 : Int32) (s2 : wg_M) (v3 : Int32) (v4 : Int32) : Option (Int32 × wg_M) := if v4 = (1 : Int32) then (f_X12_savedBy_47 (f_X12_savedBy_4  n) 0 x1 x3 (3 : Int32) (x2 + v3) s2) else (f_X12_savedBy_47 (f_X12_savedBy_4  n) 0 x1 x3 (0 : Int32) (x2 + v3) s2)
def q_X12_savedBy_4__2 (n : Nat) (x1 : Int32) (x2 : Int32) (x3 : Int32) (s2 : wg_M) (v3 : Int32) : Option (Int32 × wg_M) := wg_ga 8 (s2 4) x3 (q_X12_savedBy_4__3 n x1 x2 x3 s2 v3)
def q_X12_savedBy_4__1 (n : Nat) (x1 : Int32) (x2 : Int32) (x3 : Int32) (v1 : Int32) (s2 : wg_M) : Option (Int32 × wg_M) := if v1 = 0 then (f_X12_savedBy_49 (f_X12_savedBy_4  n) 0 x1 x2 x3 s2) else (wg_ga 295 (s2 1) ((67 : Int32) + x3) (q_X12_savedBy_4__2 n x1 x2 x3 s2))
theorem e_X12_savedBy_4__1 (n : Nat) (x1 : Int32) (x2 : Int32) (x3 : Int32) (v1 : Int32) (s2 : wg_M) : q_X12_savedBy_4__1 n x1 x2 x3 v1 s2 = if v1 = 0 then (f_X12_savedBy_49 (f_X12_savedBy_4  n) 0 x1 x2 x3 s2) else (wg_ga 295 (s2 1) ((67 : Int32) + x3) (q_X12_savedBy_4__2 n x1 x2 x3 s2)) := rfl
theorem e_X12_savedBy_4__2 (n : Nat) (x1 : Int32) (x2 : Int32) (x3 : Int32) (s2 : wg_M) (v3 : Int32) : q_X12_savedBy_4__2 n x1 x2 x3 s2 v3 = wg_ga 8 (s2 4) x3 (q_X12_savedBy_4__3 n x1 x2 x3 s2 v3) := rfl
theorem e_X12_savedBy_4__3 (n : Nat) (x1 : Int32) (x2 : Int32) (x3 : Int32) (s2 : wg_M) (v3 : Int32) (v4 : Int32) : q_X12_savedBy_4__3 n x1 x2 x3 s2 v3 v4 = if v4 = (1 : Int32) then (f_X12_savedBy_47 (f_X12_savedBy_4  n) 0 x1 x3 (3 : Int32) (x2 + v3) s2) else (f_X12_savedBy_47 (f_X12_savedBy_4  n) 0 x1 x3 (0 : Int32) (x2 + v3) s2) := rfl
theorem e_X12_savedBy_4 (n : Nat) (x1 : Int32) (x2 : Int32) (x3 : Int32) (σ : wg_M) : f_X12_savedBy_4 (n + 1) 0 x1 x2 x3 σ = if (σ 0 6) ≤ x3 then (some (x2, σ)) else (wg_bd (f_X12_has 0 x1 x3 σ) (q_X12_savedBy_4__1 n x1 x2 x3)) := by
  rw [f_X12_savedBy_4]
  simp only [sm_n1, sm_n4, sm_r0_1, sm_r0_9]
  rfl
theorem e_X12_savedBy (x1 : Int32) (σ : wg_M) : f_X12_savedBy 0 x1 σ = f_X12_savedBy_4  wg_N 0 x1 (0 : Int32) (0 : Int32) σ := rfl
def q_X12_saves_72__1 (k34 : Nat → Int32 → Int32 → Int32 → Int32 → wg_M → Option (Int32 × wg_M)) (x1 : Int32) (x2 : Int32) (x3 : Int32) (σ : wg_M) (v1 : Int32) : Option (Int32 × wg_M) := k34 0 x1 x2 x3 v1 σ
theorem e_X12_saves_72__1 (k34 : Nat → Int32 → Int32 → Int32 → Int32 → wg_M → Option (Int32 × wg_M)) (x1 : Int32) (x2 : Int32) (x3 : Int32) (σ : wg_M) (v1 : Int32) : q_X12_saves_72__1 k34 x1 x2 x3 σ v1 = k34 0 x1 x2 x3 v1 σ := rfl
theorem e_X12_saves_72 (k34 : Nat → Int32 → Int32 → Int32 → Int32 → wg_M → Option (Int32 × wg_M)) (x1 : Int32) (x2 : Int32) (x3 : Int32) (x4 : Int32) (σ : wg_M) : f_X12_saves_72 k34 0 x1 x2 x3 x4 σ = wg_let (x4 + (1 : Int32)) (q_X12_saves_72__1 k34 x1 x2 x3 σ) := rfl
def q_X12_saves_34__4 (n : Nat) (x1 : Int32) (x2 : Int32) (x3 : Int32) (x4 : Int32) (v5 : Int32) (v7 : Int32) (s8 : wg_M) : Option (Int32 × wg_M) := if v5 ≤ v7 then (f_X12_saves_72 (f_X12_saves_34  n) 0 x1 x2 x3 x4 s8) else (f_X12_saves_72 (f_X12_saves_34  n) 0 x1 x2 x4 x4 s8)
def q_X12_saves_34__3 (n : Nat) (x1 : Int32) (x2 : Int32) (x3 : Int32) (x4 : Int32) (v5 : Int32) (s6 : wg_M) : Option (Int32 × wg_M) := wg_bd (f_X12_savedBy 0 x3 s6) (q_X12_saves_34__4 n x1 x2 x3 x4 v5)
def q_X12_saves_34__2 (n : Nat) (x1 : Int32) (x2 : Int32) (x3 : Int32) (x4 : Int32) (v3 : Int32) (s4 : wg_M) : Option (Int32 × wg_M) := if x1 < v3 then (f_X12_saves_72 (f_X12_saves_34  n) 0 x1 x2 x3 x4 s4) else (wg_bd (f_X12_savedBy 0 x4 s4) (q_X12_saves_34__3 n x1 x2 x3 x4))
def q_X12_saves_34__1 (v1 : Int32) (s2 : wg_M) : Option (Int32 × wg_M) := some (v1, s2)
theorem e_X12_saves_34__1 (v1 : Int32) (s2 : wg_M) : q_X12_saves_34__1 v1 s2 = some (v1, s2) := rfl
theorem e_X12_saves_34__2 (n : Nat) (x1 : Int32) (x2 : Int32) (x3 : Int32) (x4 : Int32) (v3 : Int32) (s4 : wg_M) : q_X12_saves_34__2 n x1 x2 x3 x4 v3 s4 = if x1 < v3 then (f_X12_saves_72 (f_X12_saves_34  n) 0 x1 x2 x3 x4 s4) else (wg_bd (f_X12_savedBy 0 x4 s4) (q_X12_saves_34__3 n x1 x2 x3 x4)) := rfl
theorem e_X12_saves_34__3 (n : Nat) (x1 : Int32) (x2 : Int32) (x3 : Int32) (x4 : Int32) (v5 : Int32) (s6 : wg_M) : q_X12_saves_34__3 n x1 x2 x3 x4 v5 s6 = wg_bd (f_X12_savedBy 0 x3 s6) (q_X12_saves_34__4 n x1 x2 x3 x4 v5) := rfl
theorem e_X12_saves_34__4 (n : Nat) (x1 : Int32) (x2 : Int32) (x3 : Int32) (x4 : Int32) (v5 : Int32) (v7 : Int32) (s8 : wg_M) : q_X12_saves_34__4 n x1 x2 x3 x4 v5 v7 s8 = if v5 ≤ v7 then (f_X12_saves_72 (f_X12_saves_34  n) 0 x1 x2 x3 x4 s8) else (f_X12_saves_72 (f_X12_saves_34  n) 0 x1 x2 x4 x4 s8) := rfl
theorem e_X12_saves_34 (n : Nat) (x1 : Int32) (x2 : Int32) (x3 : Int32) (x4 : Int32) (σ : wg_M) : f_X12_saves_34 (n + 1) 0 x1 x2 x3 x4 σ = if ((1 : Int32) <<< ((σ 0 6) &&& 31)) ≤ x4 then (if x2 = 0 then (wg_bd (f_X12_savedBy 0 x3 σ) q_X12_saves_34__1) else (some (x3, σ))) else (wg_bd (f_X12_hairOf 0 x4 σ) (q_X12_saves_34__2 n x1 x2 x3 x4)) := by
  rw [f_X12_saves_34]
  rfl
def q_X12_saves__3 (x1 : Int32) (x2 : Int32) (v4 : Int32) (s5 : wg_M) : Option (Int32 × wg_M) := if v4 = 0 then (some ((-1 : Int32), s5)) else (f_X12_saves_34  wg_N 0 x1 x2 (0 : Int32) (1 : Int32) s5)
def q_X12_saves__2 (x1 : Int32) (x2 : Int32) (v2 : Int32) (s3 : wg_M) : Option (Int32 × wg_M) := if v2 = 0 then (some ((-1 : Int32), s3)) else (wg_bd (f_X12_isIn 0 x2 (0 : Int32) (1 : Int32) s3) (q_X12_saves__3 x1 x2))
def q_X12_saves__1 (x1 : Int32) (x2 : Int32) (s1 : wg_M) : Option (Int32 × wg_M) := wg_bd (f_X12_isIn 0 x1 (1 : Int32) (400 : Int32) s1) (q_X12_saves__2 x1 x2)
theorem e_X12_saves__1 (x1 : Int32) (x2 : Int32) (s1 : wg_M) : q_X12_saves__1 x1 x2 s1 = wg_bd (f_X12_isIn 0 x1 (1 : Int32) (400 : Int32) s1) (q_X12_saves__2 x1 x2) := rfl
theorem e_X12_saves__2 (x1 : Int32) (x2 : Int32) (v2 : Int32) (s3 : wg_M) : q_X12_saves__2 x1 x2 v2 s3 = if v2 = 0 then (some ((-1 : Int32), s3)) else (wg_bd (f_X12_isIn 0 x2 (0 : Int32) (1 : Int32) s3) (q_X12_saves__3 x1 x2)) := rfl
theorem e_X12_saves__3 (x1 : Int32) (x2 : Int32) (v4 : Int32) (s5 : wg_M) : q_X12_saves__3 x1 x2 v4 s5 = if v4 = 0 then (some ((-1 : Int32), s5)) else (f_X12_saves_34  wg_N 0 x1 x2 (0 : Int32) (1 : Int32) s5) := rfl
theorem e_X12_saves (x1 : Int32) (x2 : Int32) (σ : wg_M) : f_X12_saves 0 x1 x2 σ = wg_st σ 0 0 (0 : Int32) (q_X12_saves__1 x1 x2) := rfl
def q_X12_findingSet_35__1 (k4 : Nat → Int32 → Int32 → Int32 → wg_M → Option (Int32 × wg_M)) (x1 : Int32) (x2 : Int32) (σ : wg_M) (v1 : Int32) : Option (Int32 × wg_M) := k4 0 x1 x2 v1 σ
theorem e_X12_findingSet_35__1 (k4 : Nat → Int32 → Int32 → Int32 → wg_M → Option (Int32 × wg_M)) (x1 : Int32) (x2 : Int32) (σ : wg_M) (v1 : Int32) : q_X12_findingSet_35__1 k4 x1 x2 σ v1 = k4 0 x1 x2 v1 σ := rfl
theorem e_X12_findingSet_35 (k4 : Nat → Int32 → Int32 → Int32 → wg_M → Option (Int32 × wg_M)) (x1 : Int32) (x2 : Int32) (x3 : Int32) (σ : wg_M) : f_X12_findingSet_35 k4 0 x1 x2 x3 σ = wg_let (x3 + (1 : Int32)) (q_X12_findingSet_35__1 k4 x1 x2 σ) := rfl
def q_X12_findingSet_4__3 (n : Nat) (x1 : Int32) (x3 : Int32) (s4 : wg_M) (v5 : Int32) : Option (Int32 × wg_M) := f_X12_findingSet_35 (f_X12_findingSet_4  n) 0 x1 v5 x3 s4
def q_X12_findingSet_4__2 (n : Nat) (x1 : Int32) (x2 : Int32) (x3 : Int32) (v3 : Int32) (s4 : wg_M) : Option (Int32 × wg_M) := if v3 ≤ 0 then (f_X12_findingSet_35 (f_X12_findingSet_4  n) 0 x1 x2 x3 s4) else (wg_let (x2 ||| ((1 : Int32) <<< (x3 &&& 31))) (q_X12_findingSet_4__3 n x1 x3 s4))
def q_X12_findingSet_4__1 (n : Nat) (x1 : Int32) (x2 : Int32) (x3 : Int32) (v1 : Int32) (s2 : wg_M) : Option (Int32 × wg_M) := if v1 = 0 then (f_X12_findingSet_35 (f_X12_findingSet_4  n) 0 x1 x2 x3 s2) else (wg_bd (f_X12_verdictOf 0 x1 x3 s2) (q_X12_findingSet_4__2 n x1 x2 x3))
theorem e_X12_findingSet_4__1 (n : Nat) (x1 : Int32) (x2 : Int32) (x3 : Int32) (v1 : Int32) (s2 : wg_M) : q_X12_findingSet_4__1 n x1 x2 x3 v1 s2 = if v1 = 0 then (f_X12_findingSet_35 (f_X12_findingSet_4  n) 0 x1 x2 x3 s2) else (wg_bd (f_X12_verdictOf 0 x1 x3 s2) (q_X12_findingSet_4__2 n x1 x2 x3)) := rfl
theorem e_X12_findingSet_4__2 (n : Nat) (x1 : Int32) (x2 : Int32) (x3 : Int32) (v3 : Int32) (s4 : wg_M) : q_X12_findingSet_4__2 n x1 x2 x3 v3 s4 = if v3 ≤ 0 then (f_X12_findingSet_35 (f_X12_findingSet_4  n) 0 x1 x2 x3 s4) else (wg_let (x2 ||| ((1 : Int32) <<< (x3 &&& 31))) (q_X12_findingSet_4__3 n x1 x3 s4)) := rfl
theorem e_X12_findingSet_4__3 (n : Nat) (x1 : Int32) (x3 : Int32) (s4 : wg_M) (v5 : Int32) : q_X12_findingSet_4__3 n x1 x3 s4 v5 = f_X12_findingSet_35 (f_X12_findingSet_4  n) 0 x1 v5 x3 s4 := rfl
theorem e_X12_findingSet_4 (n : Nat) (x1 : Int32) (x2 : Int32) (x3 : Int32) (σ : wg_M) : f_X12_findingSet_4 (n + 1) 0 x1 x2 x3 σ = if (σ 0 7) ≤ x3 then (some (x2, σ)) else (wg_bd (f_X12_isAlive 0 x3 σ) (q_X12_findingSet_4__1 n x1 x2 x3)) := by
  rw [f_X12_findingSet_4]
  rfl
theorem e_X12_findingSet (x1 : Int32) (σ : wg_M) : f_X12_findingSet 0 x1 σ = f_X12_findingSet_4  wg_N 0 x1 (0 : Int32) (0 : Int32) σ := rfl
def q_X12_panels_165__1 (k65 : Nat → Int32 → Int32 → Int32 → Int32 → Int32 → wg_M → Option (Int32 × wg_M)) (x2 : Int32) (x3 : Int32) (x4 : Int32) (x5 : Int32) (σ : wg_M) (v1 : Int32) : Option (Int32 × wg_M) := k65 0 x2 x3 x4 x5 v1 σ
theorem e_X12_panels_165__1 (k65 : Nat → Int32 → Int32 → Int32 → Int32 → Int32 → wg_M → Option (Int32 × wg_M)) (x2 : Int32) (x3 : Int32) (x4 : Int32) (x5 : Int32) (σ : wg_M) (v1 : Int32) : q_X12_panels_165__1 k65 x2 x3 x4 x5 σ v1 = k65 0 x2 x3 x4 x5 v1 σ := rfl
theorem e_X12_panels_165 (k65 : Nat → Int32 → Int32 → Int32 → Int32 → Int32 → wg_M → Option (Int32 × wg_M)) (x2 : Int32) (x3 : Int32) (x4 : Int32) (x5 : Int32) (x6 : Int32) (σ : wg_M) : f_X12_panels_165 k65 0 x2 x3 x4 x5 x6 σ = wg_let (x6 + (1 : Int32)) (q_X12_panels_165__1 k65 x2 x3 x4 x5 σ) := rfl
def q_X12_panels_121__3 (k65 : Nat → Int32 → Int32 → Int32 → Int32 → Int32 → wg_M → Option (Int32 × wg_M)) (x2 : Int32) (x3 : Int32) (x4 : Int32) (x6 : Int32) (s4 : wg_M) (v5 : Int32) : Option (Int32 × wg_M) := f_X12_panels_165 k65 0 x2 x3 x4 v5 x6 s4
def q_X12_panels_121__2 (k65 : Nat → Int32 → Int32 → Int32 → Int32 → Int32 → wg_M → Option (Int32 × wg_M)) (x2 : Int32) (x3 : Int32) (x4 : Int32) (x5 : Int32) (x6 : Int32) (v3 : Int32) (s4 : wg_M) : Option (Int32 × wg_M) := if v3 = (1 : Int32) then (wg_let (x5 + (1 : Int32)) (q_X12_panels_121__3 k65 x2 x3 x4 x6 s4)) else (f_X12_panels_165 k65 0 x2 x3 x4 x5 x6 s4)
def q_X12_panels_121__1 (k65 : Nat → Int32 → Int32 → Int32 → Int32 → Int32 → wg_M → Option (Int32 × wg_M)) (x2 : Int32) (x3 : Int32) (x4 : Int32) (x5 : Int32) (x6 : Int32) (v1 : Int32) (s2 : wg_M) : Option (Int32 × wg_M) := if v1 = 0 then (f_X12_panels_165 k65 0 x2 x3 x4 x5 x6 s2) else (wg_bd (f_X12_onesOf 0 ((x6 &&& x3) &&& (((1 : Int32) <<< ((x2 - (10 : Int32)) &&& 31)) ^^^ (-1 : Int32))) s2) (q_X12_panels_121__2 k65 x2 x3 x4 x5 x6))
theorem e_X12_panels_121__1 (k65 : Nat → Int32 → Int32 → Int32 → Int32 → Int32 → wg_M → Option (Int32 × wg_M)) (x2 : Int32) (x3 : Int32) (x4 : Int32) (x5 : Int32) (x6 : Int32) (v1 : Int32) (s2 : wg_M) : q_X12_panels_121__1 k65 x2 x3 x4 x5 x6 v1 s2 = if v1 = 0 then (f_X12_panels_165 k65 0 x2 x3 x4 x5 x6 s2) else (wg_bd (f_X12_onesOf 0 ((x6 &&& x3) &&& (((1 : Int32) <<< ((x2 - (10 : Int32)) &&& 31)) ^^^ (-1 : Int32))) s2) (q_X12_panels_121__2 k65 x2 x3 x4 x5 x6)) := rfl
theorem e_X12_panels_121__2 (k65 : Nat → Int32 → Int32 → Int32 → Int32 → Int32 → wg_M → Option (Int32 × wg_M)) (x2 : Int32) (x3 : Int32) (x4 : Int32) (x5 : Int32) (x6 : Int32) (v3 : Int32) (s4 : wg_M) : q_X12_panels_121__2 k65 x2 x3 x4 x5 x6 v3 s4 = if v3 = (1 : Int32) then (wg_let (x5 + (1 : Int32)) (q_X12_panels_121__3 k65 x2 x3 x4 x6 s4)) else (f_X12_panels_165 k65 0 x2 x3 x4 x5 x6 s4) := rfl
theorem e_X12_panels_121__3 (k65 : Nat → Int32 → Int32 → Int32 → Int32 → Int32 → wg_M → Option (Int32 × wg_M)) (x2 : Int32) (x3 : Int32) (x4 : Int32) (x6 : Int32) (s4 : wg_M) (v5 : Int32) : q_X12_panels_121__3 k65 x2 x3 x4 x6 s4 v5 = f_X12_panels_165 k65 0 x2 x3 x4 v5 x6 s4 := rfl
theorem e_X12_panels_121 (k65 : Nat → Int32 → Int32 → Int32 → Int32 → Int32 → wg_M → Option (Int32 × wg_M)) (x2 : Int32) (x3 : Int32) (x4 : Int32) (x5 : Int32) (x6 : Int32) (σ : wg_M) : f_X12_panels_121 k65 0 x2 x3 x4 x5 x6 σ = if x2 ≤ 0 then (f_X12_panels_165 k65 0 x2 x3 x4 x5 x6 σ) else (wg_bd (f_X12_has 0 x6 (x2 - (10 : Int32)) σ) (q_X12_panels_121__1 k65 x2 x3 x4 x5 x6)) := rfl
def q_X12_panels_65__3 (n : Nat) (x2 : Int32) (x3 : Int32) (x4 : Int32) (x6 : Int32) (s4 : wg_M) (v5 : Int32) : Option (Int32 × wg_M) := f_X12_panels_121 (f_X12_panels_65  n) 0 x2 x3 x4 v5 x6 s4
def q_X12_panels_65__2 (n : Nat) (x2 : Int32) (x3 : Int32) (x4 : Int32) (x5 : Int32) (x6 : Int32) (v3 : Int32) (s4 : wg_M) : Option (Int32 × wg_M) := if v3 ≤ (1 : Int32) then (f_X12_panels_121 (f_X12_panels_65  n) 0 x2 x3 x4 x5 x6 s4) else (wg_let (x5 + (1 : Int32)) (q_X12_panels_65__3 n x2 x3 x4 x6 s4))
def q_X12_panels_65__1 (n : Nat) (x2 : Int32) (x3 : Int32) (x4 : Int32) (x5 : Int32) (x6 : Int32) (v1 : Int32) (s2 : wg_M) : Option (Int32 × wg_M) := if v1 = (3 : Int32) then (if x2 = 0 then (wg_bd (f_X12_onesOf 0 (x6 &&& x3) s2) (q_X12_panels_65__2 n x2 x3 x4 x5 x6)) else (f_X12_panels_121 (f_X12_panels_65  n) 0 x2 x3 x4 x5 x6 s2)) else (f_X12_panels_165 (f_X12_panels_65  n) 0 x2 x3 x4 x5 x6 s2)
theorem e_X12_panels_65__1 (n : Nat) (x2 : Int32) (x3 : Int32) (x4 : Int32) (x5 : Int32) (x6 : Int32) (v1 : Int32) (s2 : wg_M) : q_X12_panels_65__1 n x2 x3 x4 x5 x6 v1 s2 = if v1 = (3 : Int32) then (if x2 = 0 then (wg_bd (f_X12_onesOf 0 (x6 &&& x3) s2) (q_X12_panels_65__2 n x2 x3 x4 x5 x6)) else (f_X12_panels_121 (f_X12_panels_65  n) 0 x2 x3 x4 x5 x6 s2)) else (f_X12_panels_165 (f_X12_panels_65  n) 0 x2 x3 x4 x5 x6 s2) := rfl
theorem e_X12_panels_65__2 (n : Nat) (x2 : Int32) (x3 : Int32) (x4 : Int32) (x5 : Int32) (x6 : Int32) (v3 : Int32) (s4 : wg_M) : q_X12_panels_65__2 n x2 x3 x4 x5 x6 v3 s4 = if v3 ≤ (1 : Int32) then (f_X12_panels_121 (f_X12_panels_65  n) 0 x2 x3 x4 x5 x6 s4) else (wg_let (x5 + (1 : Int32)) (q_X12_panels_65__3 n x2 x3 x4 x6 s4)) := rfl
theorem e_X12_panels_65__3 (n : Nat) (x2 : Int32) (x3 : Int32) (x4 : Int32) (x6 : Int32) (s4 : wg_M) (v5 : Int32) : q_X12_panels_65__3 n x2 x3 x4 x6 s4 v5 = f_X12_panels_121 (f_X12_panels_65  n) 0 x2 x3 x4 v5 x6 s4 := rfl
theorem e_X12_panels_65 (n : Nat) (x2 : Int32) (x3 : Int32) (x4 : Int32) (x5 : Int32) (x6 : Int32) (σ : wg_M) : f_X12_panels_65 (n + 1) 0 x2 x3 x4 x5 x6 σ = if ((1 : Int32) <<< ((σ 0 7) &&& 31)) ≤ x6 then (some (x5, σ)) else (if (x6 &&& (x4 ^^^ (-1 : Int32))) = 0 then (wg_bd (f_X12_onesOf 0 x6 σ) (q_X12_panels_65__1 n x2 x3 x4 x5 x6)) else (f_X12_panels_165 (f_X12_panels_65  n) 0 x2 x3 x4 x5 x6 σ)) := by
  rw [f_X12_panels_65]
  rfl
def q_X12_panels_36__3 (x2 : Int32) (v1 : Int32) (s4 : wg_M) (v5 : Int32) : Option (Int32 × wg_M) := f_X12_panels_65  wg_N 0 x2 v1 v5 (0 : Int32) (0 : Int32) s4
def q_X12_panels_36__2 (x2 : Int32) (v1 : Int32) (s2 : wg_M) (v3 : Int32) (s4 : wg_M) : Option (Int32 × wg_M) := wg_let ((((1 : Int32) <<< ((s2 0 7) &&& 31)) - (1 : Int32)) &&& (v3 ^^^ (-1 : Int32))) (q_X12_panels_36__3 x2 v1 s4)
def q_X12_panels_36__1 (x2 : Int32) (v1 : Int32) (s2 : wg_M) : Option (Int32 × wg_M) := wg_bd (f_X12_deadSet 0 s2) (q_X12_panels_36__2 x2 v1 s2)
theorem e_X12_panels_36__1 (x2 : Int32) (v1 : Int32) (s2 : wg_M) : q_X12_panels_36__1 x2 v1 s2 = wg_bd (f_X12_deadSet 0 s2) (q_X12_panels_36__2 x2 v1 s2) := rfl
theorem e_X12_panels_36__2 (x2 : Int32) (v1 : Int32) (s2 : wg_M) (v3 : Int32) (s4 : wg_M) : q_X12_panels_36__2 x2 v1 s2 v3 s4 = wg_let ((((1 : Int32) <<< ((s2 0 7) &&& 31)) - (1 : Int32)) &&& (v3 ^^^ (-1 : Int32))) (q_X12_panels_36__3 x2 v1 s4) := rfl
theorem e_X12_panels_36__3 (x2 : Int32) (v1 : Int32) (s4 : wg_M) (v5 : Int32) : q_X12_panels_36__3 x2 v1 s4 v5 = f_X12_panels_65  wg_N 0 x2 v1 v5 (0 : Int32) (0 : Int32) s4 := rfl
theorem e_X12_panels_36 (x1 : Int32) (x2 : Int32) (σ : wg_M) : f_X12_panels_36 0 x1 x2 σ = wg_bd (f_X12_findingSet 0 x1 σ) (q_X12_panels_36__1 x2) := rfl
def q_X12_panels__3 (x1 : Int32) (x2 : Int32) (v4 : Int32) (s5 : wg_M) : Option (Int32 × wg_M) := if v4 = 0 then (some ((-1 : Int32), s5)) else (f_X12_panels_36  0 x1 x2 s5)
def q_X12_panels__2 (x1 : Int32) (x2 : Int32) (v2 : Int32) (s3 : wg_M) : Option (Int32 × wg_M) := if v2 = 0 then (some ((-1 : Int32), s3)) else (if x2 = 0 then (f_X12_panels_36  0 x1 x2 s3) else (wg_bd (f_X12_isIn 0 x2 (10 : Int32) ((9 : Int32) + (s3 0 7)) s3) (q_X12_panels__3 x1 x2)))
def q_X12_panels__1 (x1 : Int32) (x2 : Int32) (s1 : wg_M) : Option (Int32 × wg_M) := wg_bd (f_X12_isTrial 0 x1 s1) (q_X12_panels__2 x1 x2)
theorem e_X12_panels__1 (x1 : Int32) (x2 : Int32) (s1 : wg_M) : q_X12_panels__1 x1 x2 s1 = wg_bd (f_X12_isTrial 0 x1 s1) (q_X12_panels__2 x1 x2) := rfl
theorem e_X12_panels__2 (x1 : Int32) (x2 : Int32) (v2 : Int32) (s3 : wg_M) : q_X12_panels__2 x1 x2 v2 s3 = if v2 = 0 then (some ((-1 : Int32), s3)) else (if x2 = 0 then (f_X12_panels_36  0 x1 x2 s3) else (wg_bd (f_X12_isIn 0 x2 (10 : Int32) ((9 : Int32) + (s3 0 7)) s3) (q_X12_panels__3 x1 x2))) := rfl
theorem e_X12_panels__3 (x1 : Int32) (x2 : Int32) (v4 : Int32) (s5 : wg_M) : q_X12_panels__3 x1 x2 v4 s5 = if v4 = 0 then (some ((-1 : Int32), s5)) else (f_X12_panels_36  0 x1 x2 s5) := rfl
theorem e_X12_panels (x1 : Int32) (x2 : Int32) (σ : wg_M) : f_X12_panels 0 x1 x2 σ = wg_st σ 0 0 (0 : Int32) (q_X12_panels__1 x1 x2) := rfl
def q_X12_trait_104__2 (s2 : wg_M) : Option (Int32 × wg_M) := some (s2 0 45, s2)
def q_X12_trait_104__1 (s1 : wg_M) : Option (Int32 × wg_M) := wg_st s1 0 45 ((s1 0 45) + (1 : Int32)) q_X12_trait_104__2
theorem e_X12_trait_104__1 (s1 : wg_M) : q_X12_trait_104__1 s1 = wg_st s1 0 45 ((s1 0 45) + (1 : Int32)) q_X12_trait_104__2 := rfl
theorem e_X12_trait_104__2 (s2 : wg_M) : q_X12_trait_104__2 s2 = some (s2 0 45, s2) := rfl
theorem e_X12_trait_104 (t0 : Int32) (t1 : Int32) (t2 : Nat) (σ : wg_M) : f_X12_trait_104 0 t0 t1 t2 σ = wg_sa (wg_n Sm t2) σ t2 t1 t0 q_X12_trait_104__1 := rfl
def q_X12_trait_50__3 (x3 : Int32) (s4 : wg_M) : Option (Int32 × wg_M) := if x3 = 0 then (f_X12_trait_104  0 (0 : Int32) (s4 0 45) 26 s4) else (f_X12_trait_104  0 (1 : Int32) (s4 0 45) 26 s4)
def q_X12_trait_50__2 (x2 : Int32) (x3 : Int32) (s3 : wg_M) : Option (Int32 × wg_M) := wg_sa 8 s3 25 (s3 0 45) x2 (q_X12_trait_50__3 x3)
def q_X12_trait_50__1 (x1 : Int32) (x2 : Int32) (x3 : Int32) (v1 : Int32) (s2 : wg_M) : Option (Int32 × wg_M) := if v1 = 0 then (some ((-1 : Int32), s2)) else (if (s2 0 45) = (8 : Int32) then (some ((-1 : Int32), s2)) else (wg_sa 8 s2 24 (s2 0 45) x1 (q_X12_trait_50__2 x2 x3)))
theorem e_X12_trait_50__1 (x1 : Int32) (x2 : Int32) (x3 : Int32) (v1 : Int32) (s2 : wg_M) : q_X12_trait_50__1 x1 x2 x3 v1 s2 = if v1 = 0 then (some ((-1 : Int32), s2)) else (if (s2 0 45) = (8 : Int32) then (some ((-1 : Int32), s2)) else (wg_sa 8 s2 24 (s2 0 45) x1 (q_X12_trait_50__2 x2 x3))) := rfl
theorem e_X12_trait_50__2 (x2 : Int32) (x3 : Int32) (s3 : wg_M) : q_X12_trait_50__2 x2 x3 s3 = wg_sa 8 s3 25 (s3 0 45) x2 (q_X12_trait_50__3 x3) := rfl
theorem e_X12_trait_50__3 (x3 : Int32) (s4 : wg_M) : q_X12_trait_50__3 x3 s4 = if x3 = 0 then (f_X12_trait_104  0 (0 : Int32) (s4 0 45) 26 s4) else (f_X12_trait_104  0 (1 : Int32) (s4 0 45) 26 s4) := rfl
theorem e_X12_trait_50 (x1 : Int32) (x2 : Int32) (x3 : Int32) (t0 : Int32) (t1 : Int32) (t2 : Int32) (t3 : Nat) (σ : wg_M) : f_X12_trait_50 0 x1 x2 x3 t0 t1 t2 t3 σ = wg_bd (f_X12_isIn t3 t2 t1 t0 σ) (q_X12_trait_50__1 x1 x2 x3) := by
  unfold f_X12_trait_50
  simp only [sm_n24, sm_n25, sm_r0_46, sm_r0_47, sm_r0_48]
  rfl
def q_X12_trait__3 (x1 : Int32) (x2 : Int32) (x3 : Int32) (v2 : Int32) (s3 : wg_M) : Option (Int32 × wg_M) := if v2 = 0 then (some ((-1 : Int32), s3)) else (if x1 = 0 then (f_X12_trait_50  0 x1 x2 x3 (2 : Int32) (0 : Int32) x2 0 s3) else (if x1 = (2 : Int32) then (f_X12_trait_50  0 x1 x2 x3 (7 : Int32) (0 : Int32) x2 0 s3) else (f_X12_trait_50  0 x1 x2 x3 (99 : Int32) (0 : Int32) x2 0 s3)))
def q_X12_trait__2 (s4 : wg_M) : Option (Int32 × wg_M) := some ((0 : Int32), s4)
def q_X12_trait__1 (x1 : Int32) (x2 : Int32) (x3 : Int32) (s1 : wg_M) : Option (Int32 × wg_M) := if x1 = (-1 : Int32) then (wg_st s1 0 45 (0 : Int32) q_X12_trait__2) else (wg_bd (f_X12_isIn 0 x1 (0 : Int32) (3 : Int32) s1) (q_X12_trait__3 x1 x2 x3))
theorem e_X12_trait__1 (x1 : Int32) (x2 : Int32) (x3 : Int32) (s1 : wg_M) : q_X12_trait__1 x1 x2 x3 s1 = if x1 = (-1 : Int32) then (wg_st s1 0 45 (0 : Int32) q_X12_trait__2) else (wg_bd (f_X12_isIn 0 x1 (0 : Int32) (3 : Int32) s1) (q_X12_trait__3 x1 x2 x3)) := rfl
theorem e_X12_trait__2 (s4 : wg_M) : q_X12_trait__2 s4 = some ((0 : Int32), s4) := rfl
theorem e_X12_trait__3 (x1 : Int32) (x2 : Int32) (x3 : Int32) (v2 : Int32) (s3 : wg_M) : q_X12_trait__3 x1 x2 x3 v2 s3 = if v2 = 0 then (some ((-1 : Int32), s3)) else (if x1 = 0 then (f_X12_trait_50  0 x1 x2 x3 (2 : Int32) (0 : Int32) x2 0 s3) else (if x1 = (2 : Int32) then (f_X12_trait_50  0 x1 x2 x3 (7 : Int32) (0 : Int32) x2 0 s3) else (f_X12_trait_50  0 x1 x2 x3 (99 : Int32) (0 : Int32) x2 0 s3))) := rfl
theorem e_X12_trait (x1 : Int32) (x2 : Int32) (x3 : Int32) (σ : wg_M) : f_X12_trait 0 x1 x2 x3 σ = wg_st σ 0 0 (0 : Int32) (q_X12_trait__1 x1 x2 x3) := rfl
def q_X12_hasTrait__4 (x3 : Int32) (σ : wg_M) (v1 : Int32) : Option (Int32 × wg_M) := if v1 < x3 then (some ((0 : Int32), σ)) else (some ((1 : Int32), σ))
def q_X12_hasTrait__3 (v2 : Int32) (s3 : wg_M) : Option (Int32 × wg_M) := if v2 ≤ 0 then (some ((0 : Int32), s3)) else (some ((1 : Int32), s3))
def q_X12_hasTrait__2 (x3 : Int32) (σ : wg_M) (v4 : Int32) : Option (Int32 × wg_M) := if v4 < x3 then (some ((0 : Int32), σ)) else (some ((1 : Int32), σ))
def q_X12_hasTrait__1 (x3 : Int32) (σ : wg_M) (v5 : Int32) : Option (Int32 × wg_M) := if v5 = x3 then (some ((1 : Int32), σ)) else (some ((0 : Int32), σ))
theorem e_X12_hasTrait__1 (x3 : Int32) (σ : wg_M) (v5 : Int32) : q_X12_hasTrait__1 x3 σ v5 = if v5 = x3 then (some ((1 : Int32), σ)) else (some ((0 : Int32), σ)) := rfl
theorem e_X12_hasTrait__2 (x3 : Int32) (σ : wg_M) (v4 : Int32) : q_X12_hasTrait__2 x3 σ v4 = if v4 < x3 then (some ((0 : Int32), σ)) else (some ((1 : Int32), σ)) := rfl
theorem e_X12_hasTrait__3 (v2 : Int32) (s3 : wg_M) : q_X12_hasTrait__3 v2 s3 = if v2 ≤ 0 then (some ((0 : Int32), s3)) else (some ((1 : Int32), s3)) := rfl
theorem e_X12_hasTrait__4 (x3 : Int32) (σ : wg_M) (v1 : Int32) : q_X12_hasTrait__4 x3 σ v1 = if v1 < x3 then (some ((0 : Int32), σ)) else (some ((1 : Int32), σ)) := rfl
theorem e_X12_hasTrait (x1 : Int32) (x2 : Int32) (x3 : Int32) (σ : wg_M) : f_X12_hasTrait 0 x1 x2 x3 σ = if x2 = 0 then (wg_ga 8 (σ 4) x1 (q_X12_hasTrait__1 x3 σ)) else (if x2 = (1 : Int32) then (wg_ga 295 (σ 1) ((43 : Int32) + x1) (q_X12_hasTrait__2 x3 σ)) else (if x2 = (2 : Int32) then (wg_bd (f_X12_rulesFor 0 x1 x3 σ) q_X12_hasTrait__3) else (wg_ga 295 (σ 1) ((59 : Int32) + x1) (q_X12_hasTrait__4 x3 σ)))) := by
  unfold f_X12_hasTrait
  simp only [sm_n1, sm_n4, sm_r0_1, sm_r0_9]
  rfl
def q_X12_whoseSet_82__1 (k4 : Nat → Int32 → Int32 → wg_M → Option (Int32 × wg_M)) (x1 : Int32) (σ : wg_M) (v1 : Int32) : Option (Int32 × wg_M) := k4 0 x1 v1 σ
theorem e_X12_whoseSet_82__1 (k4 : Nat → Int32 → Int32 → wg_M → Option (Int32 × wg_M)) (x1 : Int32) (σ : wg_M) (v1 : Int32) : q_X12_whoseSet_82__1 k4 x1 σ v1 = k4 0 x1 v1 σ := rfl
theorem e_X12_whoseSet_82 (k4 : Nat → Int32 → Int32 → wg_M → Option (Int32 × wg_M)) (x1 : Int32) (x2 : Int32) (σ : wg_M) : f_X12_whoseSet_82 k4 0 x1 x2 σ = wg_let (x2 + (1 : Int32)) (q_X12_whoseSet_82__1 k4 x1 σ) := rfl
def q_X12_whoseSet_66__1 (k17 : Nat → Int32 → Int32 → Int32 → Int32 → wg_M → Option (Int32 × wg_M)) (x1 : Int32) (x2 : Int32) (x3 : Int32) (σ : wg_M) (v1 : Int32) : Option (Int32 × wg_M) := k17 0 x1 x2 x3 v1 σ
theorem e_X12_whoseSet_66__1 (k17 : Nat → Int32 → Int32 → Int32 → Int32 → wg_M → Option (Int32 × wg_M)) (x1 : Int32) (x2 : Int32) (x3 : Int32) (σ : wg_M) (v1 : Int32) : q_X12_whoseSet_66__1 k17 x1 x2 x3 σ v1 = k17 0 x1 x2 x3 v1 σ := rfl
theorem e_X12_whoseSet_66 (k17 : Nat → Int32 → Int32 → Int32 → Int32 → wg_M → Option (Int32 × wg_M)) (x1 : Int32) (x2 : Int32) (x3 : Int32) (x4 : Int32) (σ : wg_M) : f_X12_whoseSet_66 k17 0 x1 x2 x3 x4 σ = wg_let (x4 + (1 : Int32)) (q_X12_whoseSet_66__1 k17 x1 x2 x3 σ) := rfl
theorem e_X12_whoseSet_61 (k17 : Nat → Int32 → Int32 → Int32 → Int32 → wg_M → Option (Int32 × wg_M)) (x1 : Int32) (x2 : Int32) (x3 : Int32) (x4 : Int32) (t0 : Int32) (t1 : Int32) (σ : wg_M) : f_X12_whoseSet_61 k17 0 x1 x2 x3 x4 t0 t1 σ = if t1 = t0 then (f_X12_whoseSet_66 k17 0 x1 x2 x3 x4 σ) else (f_X12_whoseSet_66 k17 0 x1 x2 (0 : Int32) x4 σ) := rfl
def q_X12_whoseSet_17__5 (k4 : Nat → Int32 → Int32 → wg_M → Option (Int32 × wg_M)) (n : Nat) (x1 : Int32) (x2 : Int32) (x3 : Int32) (x4 : Int32) (v4 : Int32) (s5 : wg_M) (v6 : Int32) : Option (Int32 × wg_M) := if v6 = (1 : Int32) then (f_X12_whoseSet_61 (f_X12_whoseSet_17 k4 n) 0 x1 x2 x3 x4 (1 : Int32) v4 s5) else (f_X12_whoseSet_61 (f_X12_whoseSet_17 k4 n) 0 x1 x2 x3 x4 (0 : Int32) v4 s5)
def q_X12_whoseSet_17__4 (k4 : Nat → Int32 → Int32 → wg_M → Option (Int32 × wg_M)) (n : Nat) (x1 : Int32) (x2 : Int32) (x3 : Int32) (x4 : Int32) (v4 : Int32) (s5 : wg_M) : Option (Int32 × wg_M) := wg_ga 8 (s5 26) x4 (q_X12_whoseSet_17__5 k4 n x1 x2 x3 x4 v4 s5)
def q_X12_whoseSet_17__3 (k4 : Nat → Int32 → Int32 → wg_M → Option (Int32 × wg_M)) (n : Nat) (x1 : Int32) (x2 : Int32) (x3 : Int32) (x4 : Int32) (σ : wg_M) (v2 : Int32) (v3 : Int32) : Option (Int32 × wg_M) := wg_bd (f_X12_hasTrait 0 x2 v2 v3 σ) (q_X12_whoseSet_17__4 k4 n x1 x2 x3 x4)
def q_X12_whoseSet_17__2 (k4 : Nat → Int32 → Int32 → wg_M → Option (Int32 × wg_M)) (n : Nat) (x1 : Int32) (x2 : Int32) (x3 : Int32) (x4 : Int32) (σ : wg_M) (v2 : Int32) : Option (Int32 × wg_M) := wg_ga 8 (σ 25) x4 (q_X12_whoseSet_17__3 k4 n x1 x2 x3 x4 σ v2)
def q_X12_whoseSet_17__1 (k4 : Nat → Int32 → Int32 → wg_M → Option (Int32 × wg_M)) (x2 : Int32) (σ : wg_M) (v1 : Int32) : Option (Int32 × wg_M) := f_X12_whoseSet_82 k4 0 v1 x2 σ
theorem e_X12_whoseSet_17__1 (k4 : Nat → Int32 → Int32 → wg_M → Option (Int32 × wg_M)) (x2 : Int32) (σ : wg_M) (v1 : Int32) : q_X12_whoseSet_17__1 k4 x2 σ v1 = f_X12_whoseSet_82 k4 0 v1 x2 σ := rfl
theorem e_X12_whoseSet_17__2 (k4 : Nat → Int32 → Int32 → wg_M → Option (Int32 × wg_M)) (n : Nat) (x1 : Int32) (x2 : Int32) (x3 : Int32) (x4 : Int32) (σ : wg_M) (v2 : Int32) : q_X12_whoseSet_17__2 k4 n x1 x2 x3 x4 σ v2 = wg_ga 8 (σ 25) x4 (q_X12_whoseSet_17__3 k4 n x1 x2 x3 x4 σ v2) := rfl
theorem e_X12_whoseSet_17__3 (k4 : Nat → Int32 → Int32 → wg_M → Option (Int32 × wg_M)) (n : Nat) (x1 : Int32) (x2 : Int32) (x3 : Int32) (x4 : Int32) (σ : wg_M) (v2 : Int32) (v3 : Int32) : q_X12_whoseSet_17__3 k4 n x1 x2 x3 x4 σ v2 v3 = wg_bd (f_X12_hasTrait 0 x2 v2 v3 σ) (q_X12_whoseSet_17__4 k4 n x1 x2 x3 x4) := rfl
theorem e_X12_whoseSet_17__4 (k4 : Nat → Int32 → Int32 → wg_M → Option (Int32 × wg_M)) (n : Nat) (x1 : Int32) (x2 : Int32) (x3 : Int32) (x4 : Int32) (v4 : Int32) (s5 : wg_M) : q_X12_whoseSet_17__4 k4 n x1 x2 x3 x4 v4 s5 = wg_ga 8 (s5 26) x4 (q_X12_whoseSet_17__5 k4 n x1 x2 x3 x4 v4 s5) := rfl
theorem e_X12_whoseSet_17__5 (k4 : Nat → Int32 → Int32 → wg_M → Option (Int32 × wg_M)) (n : Nat) (x1 : Int32) (x2 : Int32) (x3 : Int32) (x4 : Int32) (v4 : Int32) (s5 : wg_M) (v6 : Int32) : q_X12_whoseSet_17__5 k4 n x1 x2 x3 x4 v4 s5 v6 = if v6 = (1 : Int32) then (f_X12_whoseSet_61 (f_X12_whoseSet_17 k4 n) 0 x1 x2 x3 x4 (1 : Int32) v4 s5) else (f_X12_whoseSet_61 (f_X12_whoseSet_17 k4 n) 0 x1 x2 x3 x4 (0 : Int32) v4 s5) := rfl
theorem e_X12_whoseSet_17 (k4 : Nat → Int32 → Int32 → wg_M → Option (Int32 × wg_M)) (n : Nat) (x1 : Int32) (x2 : Int32) (x3 : Int32) (x4 : Int32) (σ : wg_M) : f_X12_whoseSet_17 k4 (n + 1) 0 x1 x2 x3 x4 σ = if (σ 0 45) ≤ x4 then (if x3 = 0 then (f_X12_whoseSet_82 k4 0 x1 x2 σ) else (wg_let (x1 ||| ((1 : Int32) <<< (x2 &&& 31))) (q_X12_whoseSet_17__1 k4 x2 σ))) else (wg_ga 8 (σ 24) x4 (q_X12_whoseSet_17__2 k4 n x1 x2 x3 x4 σ)) := by
  rw [f_X12_whoseSet_17]
  simp only [sm_n24, sm_n25, sm_n26, sm_r0_46, sm_r0_47, sm_r0_48]
  rfl
theorem e_X12_whoseSet_4 (n : Nat) (x1 : Int32) (x2 : Int32) (σ : wg_M) : f_X12_whoseSet_4 (n + 1) 0 x1 x2 σ = if (σ 0 6) ≤ x2 then (some (x1, σ)) else (f_X12_whoseSet_17 (f_X12_whoseSet_4  n) wg_N 0 x1 x2 (1 : Int32) (0 : Int32) σ) := by
  rw [f_X12_whoseSet_4]
theorem e_X12_whoseSet (σ : wg_M) : f_X12_whoseSet 0 σ = f_X12_whoseSet_4  wg_N 0 (0 : Int32) (0 : Int32) σ := rfl
def q_X12_whose_101__1 (k65 : Nat → Int32 → Int32 → Int32 → Int32 → Int32 → Int32 → Int32 → wg_M → Option (Int32 × wg_M)) (x2 : Int32) (x3 : Int32) (x4 : Int32) (x5 : Int32) (x6 : Int32) (x7 : Int32) (σ : wg_M) (v1 : Int32) : Option (Int32 × wg_M) := k65 0 x2 x3 x4 x5 x6 x7 v1 σ
theorem e_X12_whose_101__1 (k65 : Nat → Int32 → Int32 → Int32 → Int32 → Int32 → Int32 → Int32 → wg_M → Option (Int32 × wg_M)) (x2 : Int32) (x3 : Int32) (x4 : Int32) (x5 : Int32) (x6 : Int32) (x7 : Int32) (σ : wg_M) (v1 : Int32) : q_X12_whose_101__1 k65 x2 x3 x4 x5 x6 x7 σ v1 = k65 0 x2 x3 x4 x5 x6 x7 v1 σ := rfl
theorem e_X12_whose_101 (k65 : Nat → Int32 → Int32 → Int32 → Int32 → Int32 → Int32 → Int32 → wg_M → Option (Int32 × wg_M)) (x2 : Int32) (x3 : Int32) (x4 : Int32) (x5 : Int32) (x6 : Int32) (x7 : Int32) (x8 : Int32) (σ : wg_M) : f_X12_whose_101 k65 0 x2 x3 x4 x5 x6 x7 x8 σ = wg_let (x8 + (1 : Int32)) (q_X12_whose_101__1 k65 x2 x3 x4 x5 x6 x7 σ) := rfl
def q_X12_whose_133__2 (k52 : Nat → Int32 → Int32 → Int32 → Int32 → Int32 → wg_M → Option (Int32 × wg_M)) (x2 : Int32) (x3 : Int32) (t0 : Int32) (v1 : Int32) (s2 : wg_M) (v3 : Int32) : Option (Int32 × wg_M) := k52 0 x2 x3 t0 v1 v3 s2
def q_X12_whose_133__1 (k52 : Nat → Int32 → Int32 → Int32 → Int32 → Int32 → wg_M → Option (Int32 × wg_M)) (x2 : Int32) (x3 : Int32) (x6 : Int32) (t0 : Int32) (v1 : Int32) (s2 : wg_M) : Option (Int32 × wg_M) := wg_let (x6 + (1 : Int32)) (q_X12_whose_133__2 k52 x2 x3 t0 v1 s2)
theorem e_X12_whose_133__1 (k52 : Nat → Int32 → Int32 → Int32 → Int32 → Int32 → wg_M → Option (Int32 × wg_M)) (x2 : Int32) (x3 : Int32) (x6 : Int32) (t0 : Int32) (v1 : Int32) (s2 : wg_M) : q_X12_whose_133__1 k52 x2 x3 x6 t0 v1 s2 = wg_let (x6 + (1 : Int32)) (q_X12_whose_133__2 k52 x2 x3 t0 v1 s2) := rfl
theorem e_X12_whose_133__2 (k52 : Nat → Int32 → Int32 → Int32 → Int32 → Int32 → wg_M → Option (Int32 × wg_M)) (x2 : Int32) (x3 : Int32) (t0 : Int32) (v1 : Int32) (s2 : wg_M) (v3 : Int32) : q_X12_whose_133__2 k52 x2 x3 t0 v1 s2 v3 = k52 0 x2 x3 t0 v1 v3 s2 := rfl
theorem e_X12_whose_133 (k52 : Nat → Int32 → Int32 → Int32 → Int32 → Int32 → wg_M → Option (Int32 × wg_M)) (x2 : Int32) (x3 : Int32) (x5 : Int32) (x6 : Int32) (x8 : Int32) (t0 : Int32) (σ : wg_M) : f_X12_whose_133 k52 0 x2 x3 x5 x6 x8 t0 σ = wg_bd (f_X12_lesser 0 x5 x8 σ) (q_X12_whose_133__1 k52 x2 x3 x6 t0) := rfl
def q_X12_whose_65__4 (k52 : Nat → Int32 → Int32 → Int32 → Int32 → Int32 → wg_M → Option (Int32 × wg_M)) (n : Nat) (x2 : Int32) (x3 : Int32) (x4 : Int32) (x5 : Int32) (x6 : Int32) (x8 : Int32) (s6 : wg_M) (v7 : Int32) : Option (Int32 × wg_M) := f_X12_whose_101 (f_X12_whose_65 k52 n) 0 x2 x3 x4 x5 x6 v7 x8 s6
def q_X12_whose_65__3 (k52 : Nat → Int32 → Int32 → Int32 → Int32 → Int32 → wg_M → Option (Int32 × wg_M)) (n : Nat) (x2 : Int32) (x3 : Int32) (x4 : Int32) (x5 : Int32) (x6 : Int32) (x7 : Int32) (x8 : Int32) (v5 : Int32) (s6 : wg_M) : Option (Int32 × wg_M) := if v5 ≤ 0 then (f_X12_whose_101 (f_X12_whose_65 k52 n) 0 x2 x3 x4 x5 x6 x7 x8 s6) else (wg_let (x7 + (1 : Int32)) (q_X12_whose_65__4 k52 n x2 x3 x4 x5 x6 x8 s6))
def q_X12_whose_65__2 (k52 : Nat → Int32 → Int32 → Int32 → Int32 → Int32 → wg_M → Option (Int32 × wg_M)) (n : Nat) (x2 : Int32) (x3 : Int32) (x4 : Int32) (x5 : Int32) (x6 : Int32) (x7 : Int32) (x8 : Int32) (v3 : Int32) (s4 : wg_M) : Option (Int32 × wg_M) := if v3 = 0 then (f_X12_whose_101 (f_X12_whose_65 k52 n) 0 x2 x3 x4 x5 x6 x7 x8 s4) else (wg_bd (f_X12_rulesFor 0 x8 x6 s4) (q_X12_whose_65__3 k52 n x2 x3 x4 x5 x6 x7 x8))
def q_X12_whose_65__1 (k52 : Nat → Int32 → Int32 → Int32 → Int32 → Int32 → wg_M → Option (Int32 × wg_M)) (x2 : Int32) (x3 : Int32) (x4 : Int32) (x5 : Int32) (x6 : Int32) (v1 : Int32) (s2 : wg_M) : Option (Int32 × wg_M) := if x5 ≤ v1 then (f_X12_whose_133 k52 0 x2 x3 x5 x6 v1 x4 s2) else (f_X12_whose_133 k52 0 x2 x3 x5 x6 v1 x6 s2)
theorem e_X12_whose_65__1 (k52 : Nat → Int32 → Int32 → Int32 → Int32 → Int32 → wg_M → Option (Int32 × wg_M)) (x2 : Int32) (x3 : Int32) (x4 : Int32) (x5 : Int32) (x6 : Int32) (v1 : Int32) (s2 : wg_M) : q_X12_whose_65__1 k52 x2 x3 x4 x5 x6 v1 s2 = if x5 ≤ v1 then (f_X12_whose_133 k52 0 x2 x3 x5 x6 v1 x4 s2) else (f_X12_whose_133 k52 0 x2 x3 x5 x6 v1 x6 s2) := rfl
theorem e_X12_whose_65__2 (k52 : Nat → Int32 → Int32 → Int32 → Int32 → Int32 → wg_M → Option (Int32 × wg_M)) (n : Nat) (x2 : Int32) (x3 : Int32) (x4 : Int32) (x5 : Int32) (x6 : Int32) (x7 : Int32) (x8 : Int32) (v3 : Int32) (s4 : wg_M) : q_X12_whose_65__2 k52 n x2 x3 x4 x5 x6 x7 x8 v3 s4 = if v3 = 0 then (f_X12_whose_101 (f_X12_whose_65 k52 n) 0 x2 x3 x4 x5 x6 x7 x8 s4) else (wg_bd (f_X12_rulesFor 0 x8 x6 s4) (q_X12_whose_65__3 k52 n x2 x3 x4 x5 x6 x7 x8)) := rfl
theorem e_X12_whose_65__3 (k52 : Nat → Int32 → Int32 → Int32 → Int32 → Int32 → wg_M → Option (Int32 × wg_M)) (n : Nat) (x2 : Int32) (x3 : Int32) (x4 : Int32) (x5 : Int32) (x6 : Int32) (x7 : Int32) (x8 : Int32) (v5 : Int32) (s6 : wg_M) : q_X12_whose_65__3 k52 n x2 x3 x4 x5 x6 x7 x8 v5 s6 = if v5 ≤ 0 then (f_X12_whose_101 (f_X12_whose_65 k52 n) 0 x2 x3 x4 x5 x6 x7 x8 s6) else (wg_let (x7 + (1 : Int32)) (q_X12_whose_65__4 k52 n x2 x3 x4 x5 x6 x8 s6)) := rfl
theorem e_X12_whose_65__4 (k52 : Nat → Int32 → Int32 → Int32 → Int32 → Int32 → wg_M → Option (Int32 × wg_M)) (n : Nat) (x2 : Int32) (x3 : Int32) (x4 : Int32) (x5 : Int32) (x6 : Int32) (x8 : Int32) (s6 : wg_M) (v7 : Int32) : q_X12_whose_65__4 k52 n x2 x3 x4 x5 x6 x8 s6 v7 = f_X12_whose_101 (f_X12_whose_65 k52 n) 0 x2 x3 x4 x5 x6 v7 x8 s6 := rfl
theorem e_X12_whose_65 (k52 : Nat → Int32 → Int32 → Int32 → Int32 → Int32 → wg_M → Option (Int32 × wg_M)) (n : Nat) (x2 : Int32) (x3 : Int32) (x4 : Int32) (x5 : Int32) (x6 : Int32) (x7 : Int32) (x8 : Int32) (σ : wg_M) : f_X12_whose_65 k52 (n + 1) 0 x2 x3 x4 x5 x6 x7 x8 σ = if (σ 0 6) ≤ x8 then (wg_bd (f_X12_greater 0 x7 (x3 - x7) σ) (q_X12_whose_65__1 k52 x2 x3 x4 x5 x6)) else (wg_bd (f_X12_has 0 x2 x8 σ) (q_X12_whose_65__2 k52 n x2 x3 x4 x5 x6 x7 x8)) := by
  rw [f_X12_whose_65]
  rfl
theorem e_X12_whose_52 (n : Nat) (x2 : Int32) (x3 : Int32) (x4 : Int32) (x5 : Int32) (x6 : Int32) (σ : wg_M) : f_X12_whose_52 (n + 1) 0 x2 x3 x4 x5 x6 σ = if (8 : Int32) ≤ x6 then (some (x4, σ)) else (f_X12_whose_65 (f_X12_whose_52  n) wg_N 0 x2 x3 x4 x5 x6 (0 : Int32) (0 : Int32) σ) := by
  rw [f_X12_whose_52]
def q_X12_whose__4 (v4 : Int32) (v6 : Int32) (s7 : wg_M) : Option (Int32 × wg_M) := if (2 : Int32) ≤ v6 then (f_X12_whose_52  wg_N 0 v4 v6 (0 : Int32) (100000000 : Int32) (0 : Int32) s7) else (some ((-1 : Int32), s7))
def q_X12_whose__3 (x1 : Int32) (v4 : Int32) (s5 : wg_M) : Option (Int32 × wg_M) := if x1 = 0 then (some (v4, s5)) else (wg_bd (f_X12_onesOf 0 v4 s5) (q_X12_whose__4 v4))
def q_X12_whose__2 (x1 : Int32) (v2 : Int32) (s3 : wg_M) : Option (Int32 × wg_M) := if v2 = 0 then (some ((-1 : Int32), s3)) else (wg_bd (f_X12_whoseSet 0 s3) (q_X12_whose__3 x1))
def q_X12_whose__1 (x1 : Int32) (s1 : wg_M) : Option (Int32 × wg_M) := wg_bd (f_X12_isIn 0 x1 (0 : Int32) (1 : Int32) s1) (q_X12_whose__2 x1)
theorem e_X12_whose__1 (x1 : Int32) (s1 : wg_M) : q_X12_whose__1 x1 s1 = wg_bd (f_X12_isIn 0 x1 (0 : Int32) (1 : Int32) s1) (q_X12_whose__2 x1) := rfl
theorem e_X12_whose__2 (x1 : Int32) (v2 : Int32) (s3 : wg_M) : q_X12_whose__2 x1 v2 s3 = if v2 = 0 then (some ((-1 : Int32), s3)) else (wg_bd (f_X12_whoseSet 0 s3) (q_X12_whose__3 x1)) := rfl
theorem e_X12_whose__3 (x1 : Int32) (v4 : Int32) (s5 : wg_M) : q_X12_whose__3 x1 v4 s5 = if x1 = 0 then (some (v4, s5)) else (wg_bd (f_X12_onesOf 0 v4 s5) (q_X12_whose__4 v4)) := rfl
theorem e_X12_whose__4 (v4 : Int32) (v6 : Int32) (s7 : wg_M) : q_X12_whose__4 v4 v6 s7 = if (2 : Int32) ≤ v6 then (f_X12_whose_52  wg_N 0 v4 v6 (0 : Int32) (100000000 : Int32) (0 : Int32) s7) else (some ((-1 : Int32), s7)) := rfl
theorem e_X12_whose (x1 : Int32) (σ : wg_M) : f_X12_whose 0 x1 σ = wg_st σ 0 0 (0 : Int32) (q_X12_whose__1 x1) := rfl
def q_X12_cite_17__2 (n : Nat) (s1 : wg_M) (v2 : Int32) : Option (Int32 × wg_M) := f_X12_cite_17  n 0 v2 s1
def q_X12_cite_17__1 (n : Nat) (x3 : Int32) (s1 : wg_M) : Option (Int32 × wg_M) := wg_let (x3 + (1 : Int32)) (q_X12_cite_17__2 n s1)
theorem e_X12_cite_17__1 (n : Nat) (x3 : Int32) (s1 : wg_M) : q_X12_cite_17__1 n x3 s1 = wg_let (x3 + (1 : Int32)) (q_X12_cite_17__2 n s1) := rfl
theorem e_X12_cite_17__2 (n : Nat) (s1 : wg_M) (v2 : Int32) : q_X12_cite_17__2 n s1 v2 = f_X12_cite_17  n 0 v2 s1 := rfl
theorem e_X12_cite_17 (n : Nat) (x3 : Int32) (σ : wg_M) : f_X12_cite_17 (n + 1) 0 x3 σ = if (14 : Int32) ≤ x3 then (some ((0 : Int32), σ)) else (wg_sa 14 σ 27 x3 (0 : Int32) (q_X12_cite_17__1 n x3)) := by
  rw [f_X12_cite_17]
  simp only [sm_n27, sm_r0_50]
  rfl
def q_X12_cite__7 (s8 : wg_M) : Option (Int32 × wg_M) := some (s8 0 49, s8)
def q_X12_cite__6 (s7 : wg_M) : Option (Int32 × wg_M) := wg_st s7 0 49 ((s7 0 49) + (1 : Int32)) q_X12_cite__7
def q_X12_cite__5 (x1 : Int32) (x2 : Int32) (s5 : wg_M) (v6 : Int32) : Option (Int32 × wg_M) := wg_sa 14 s5 27 x1 (v6 ||| ((1 : Int32) <<< (x2 &&& 31))) q_X12_cite__6
def q_X12_cite__4 (x1 : Int32) (x2 : Int32) (v4 : Int32) (s5 : wg_M) : Option (Int32 × wg_M) := if v4 = 0 then (some ((-1 : Int32), s5)) else (if x1 = x2 then (some ((-1 : Int32), s5)) else (if (s5 0 49) = (16 : Int32) then (some ((-1 : Int32), s5)) else (wg_ga 14 (s5 27) x1 (q_X12_cite__5 x1 x2 s5))))
def q_X12_cite__3 (x1 : Int32) (x2 : Int32) (v2 : Int32) (s3 : wg_M) : Option (Int32 × wg_M) := if v2 = 0 then (some ((-1 : Int32), s3)) else (wg_bd (f_X12_isIn 0 x2 (0 : Int32) (13 : Int32) s3) (q_X12_cite__4 x1 x2))
def q_X12_cite__2 (s9 : wg_M) : Option (Int32 × wg_M) := f_X12_cite_17  wg_N 0 (0 : Int32) s9
def q_X12_cite__1 (x1 : Int32) (x2 : Int32) (s1 : wg_M) : Option (Int32 × wg_M) := if x1 = (-1 : Int32) then (wg_st s1 0 49 (0 : Int32) q_X12_cite__2) else (wg_bd (f_X12_isIn 0 x1 (0 : Int32) (13 : Int32) s1) (q_X12_cite__3 x1 x2))
theorem e_X12_cite__1 (x1 : Int32) (x2 : Int32) (s1 : wg_M) : q_X12_cite__1 x1 x2 s1 = if x1 = (-1 : Int32) then (wg_st s1 0 49 (0 : Int32) q_X12_cite__2) else (wg_bd (f_X12_isIn 0 x1 (0 : Int32) (13 : Int32) s1) (q_X12_cite__3 x1 x2)) := rfl
theorem e_X12_cite__2 (s9 : wg_M) : q_X12_cite__2 s9 = f_X12_cite_17  wg_N 0 (0 : Int32) s9 := rfl
theorem e_X12_cite__3 (x1 : Int32) (x2 : Int32) (v2 : Int32) (s3 : wg_M) : q_X12_cite__3 x1 x2 v2 s3 = if v2 = 0 then (some ((-1 : Int32), s3)) else (wg_bd (f_X12_isIn 0 x2 (0 : Int32) (13 : Int32) s3) (q_X12_cite__4 x1 x2)) := rfl
theorem e_X12_cite__4 (x1 : Int32) (x2 : Int32) (v4 : Int32) (s5 : wg_M) : q_X12_cite__4 x1 x2 v4 s5 = if v4 = 0 then (some ((-1 : Int32), s5)) else (if x1 = x2 then (some ((-1 : Int32), s5)) else (if (s5 0 49) = (16 : Int32) then (some ((-1 : Int32), s5)) else (wg_ga 14 (s5 27) x1 (q_X12_cite__5 x1 x2 s5)))) := rfl
theorem e_X12_cite__5 (x1 : Int32) (x2 : Int32) (s5 : wg_M) (v6 : Int32) : q_X12_cite__5 x1 x2 s5 v6 = wg_sa 14 s5 27 x1 (v6 ||| ((1 : Int32) <<< (x2 &&& 31))) q_X12_cite__6 := rfl
theorem e_X12_cite__6 (s7 : wg_M) : q_X12_cite__6 s7 = wg_st s7 0 49 ((s7 0 49) + (1 : Int32)) q_X12_cite__7 := rfl
theorem e_X12_cite__7 (s8 : wg_M) : q_X12_cite__7 s8 = some (s8 0 49, s8) := rfl
theorem e_X12_cite (x1 : Int32) (x2 : Int32) (σ : wg_M) : f_X12_cite 0 x1 x2 σ = wg_st σ 0 0 (0 : Int32) (q_X12_cite__1 x1 x2) := by
  unfold f_X12_cite
  simp only [sm_n27, sm_r0_50]
  rfl
def q_X12_longestFrom_36__1 (k4 : Nat → Int32 → Int32 → Int32 → wg_M → Option (Int32 × wg_M)) (x1 : Int32) (x2 : Int32) (σ : wg_M) (v1 : Int32) : Option (Int32 × wg_M) := k4 0 x1 x2 v1 σ
theorem e_X12_longestFrom_36__1 (k4 : Nat → Int32 → Int32 → Int32 → wg_M → Option (Int32 × wg_M)) (x1 : Int32) (x2 : Int32) (σ : wg_M) (v1 : Int32) : q_X12_longestFrom_36__1 k4 x1 x2 σ v1 = k4 0 x1 x2 v1 σ := rfl
theorem e_X12_longestFrom_36 (k4 : Nat → Int32 → Int32 → Int32 → wg_M → Option (Int32 × wg_M)) (x1 : Int32) (x2 : Int32) (x3 : Int32) (σ : wg_M) : f_X12_longestFrom_36 k4 0 x1 x2 x3 σ = wg_let (x3 + (1 : Int32)) (q_X12_longestFrom_36__1 k4 x1 x2 σ) := rfl
def q_X12_longestFrom_4__4 (n : Nat) (x1 : Int32) (x3 : Int32) (v5 : Int32) (s6 : wg_M) : Option (Int32 × wg_M) := f_X12_longestFrom_36 (f_X12_longestFrom_4  n) 0 x1 v5 x3 s6
def q_X12_longestFrom_4__3 (n : Nat) (x1 : Int32) (x2 : Int32) (x3 : Int32) (s3 : wg_M) (v4 : Int32) : Option (Int32 × wg_M) := wg_bd (f_X12_greater 0 x2 v4 s3) (q_X12_longestFrom_4__4 n x1 x3)
def q_X12_longestFrom_4__2 (n : Nat) (x1 : Int32) (x2 : Int32) (x3 : Int32) (v2 : Int32) (s3 : wg_M) : Option (Int32 × wg_M) := if v2 = 0 then (f_X12_longestFrom_36 (f_X12_longestFrom_4  n) 0 x1 x2 x3 s3) else (wg_ga 14 (s3 28) x3 (q_X12_longestFrom_4__3 n x1 x2 x3 s3))
def q_X12_longestFrom_4__1 (n : Nat) (x1 : Int32) (x2 : Int32) (x3 : Int32) (σ : wg_M) (v1 : Int32) : Option (Int32 × wg_M) := wg_bd (f_X12_has 0 v1 x3 σ) (q_X12_longestFrom_4__2 n x1 x2 x3)
theorem e_X12_longestFrom_4__1 (n : Nat) (x1 : Int32) (x2 : Int32) (x3 : Int32) (σ : wg_M) (v1 : Int32) : q_X12_longestFrom_4__1 n x1 x2 x3 σ v1 = wg_bd (f_X12_has 0 v1 x3 σ) (q_X12_longestFrom_4__2 n x1 x2 x3) := rfl
theorem e_X12_longestFrom_4__2 (n : Nat) (x1 : Int32) (x2 : Int32) (x3 : Int32) (v2 : Int32) (s3 : wg_M) : q_X12_longestFrom_4__2 n x1 x2 x3 v2 s3 = if v2 = 0 then (f_X12_longestFrom_36 (f_X12_longestFrom_4  n) 0 x1 x2 x3 s3) else (wg_ga 14 (s3 28) x3 (q_X12_longestFrom_4__3 n x1 x2 x3 s3)) := rfl
theorem e_X12_longestFrom_4__3 (n : Nat) (x1 : Int32) (x2 : Int32) (x3 : Int32) (s3 : wg_M) (v4 : Int32) : q_X12_longestFrom_4__3 n x1 x2 x3 s3 v4 = wg_bd (f_X12_greater 0 x2 v4 s3) (q_X12_longestFrom_4__4 n x1 x3) := rfl
theorem e_X12_longestFrom_4__4 (n : Nat) (x1 : Int32) (x3 : Int32) (v5 : Int32) (s6 : wg_M) : q_X12_longestFrom_4__4 n x1 x3 v5 s6 = f_X12_longestFrom_36 (f_X12_longestFrom_4  n) 0 x1 v5 x3 s6 := rfl
theorem e_X12_longestFrom_4 (n : Nat) (x1 : Int32) (x2 : Int32) (x3 : Int32) (σ : wg_M) : f_X12_longestFrom_4 (n + 1) 0 x1 x2 x3 σ = if (14 : Int32) ≤ x3 then (some (x2 + (1 : Int32), σ)) else (wg_ga 14 (σ 27) x1 (q_X12_longestFrom_4__1 n x1 x2 x3 σ)) := by
  rw [f_X12_longestFrom_4]
  simp only [sm_n27, sm_n28, sm_r0_50, sm_r0_51]
  rfl
theorem e_X12_longestFrom (x1 : Int32) (σ : wg_M) : f_X12_longestFrom 0 x1 σ = f_X12_longestFrom_4  wg_N 0 x1 (0 : Int32) (0 : Int32) σ := rfl
def q_X12_findsChained_62__3 (n : Nat) (s3 : wg_M) (v4 : Int32) : Option (Int32 × wg_M) := f_X12_findsChained_62  n 0 v4 s3
def q_X12_findsChained_62__2 (n : Nat) (x1 : Int32) (v1 : Int32) (v2 : Int32) (s3 : wg_M) : Option (Int32 × wg_M) := if v1 = v2 then (wg_let (x1 + (1 : Int32)) (q_X12_findsChained_62__3 n s3)) else (some ((0 : Int32), s3))
def q_X12_findsChained_62__1 (n : Nat) (x1 : Int32) (σ : wg_M) (v1 : Int32) : Option (Int32 × wg_M) := wg_bd (f_X12_longestFrom 0 x1 σ) (q_X12_findsChained_62__2 n x1 v1)
theorem e_X12_findsChained_62__1 (n : Nat) (x1 : Int32) (σ : wg_M) (v1 : Int32) : q_X12_findsChained_62__1 n x1 σ v1 = wg_bd (f_X12_longestFrom 0 x1 σ) (q_X12_findsChained_62__2 n x1 v1) := rfl
theorem e_X12_findsChained_62__2 (n : Nat) (x1 : Int32) (v1 : Int32) (v2 : Int32) (s3 : wg_M) : q_X12_findsChained_62__2 n x1 v1 v2 s3 = if v1 = v2 then (wg_let (x1 + (1 : Int32)) (q_X12_findsChained_62__3 n s3)) else (some ((0 : Int32), s3)) := rfl
theorem e_X12_findsChained_62__3 (n : Nat) (s3 : wg_M) (v4 : Int32) : q_X12_findsChained_62__3 n s3 v4 = f_X12_findsChained_62  n 0 v4 s3 := rfl
theorem e_X12_findsChained_62 (n : Nat) (x1 : Int32) (σ : wg_M) : f_X12_findsChained_62 (n + 1) 0 x1 σ = if (14 : Int32) ≤ x1 then (some ((1 : Int32), σ)) else (wg_ga 14 (σ 28) x1 (q_X12_findsChained_62__1 n x1 σ)) := by
  rw [f_X12_findsChained_62]
  simp only [sm_n28, sm_r0_51]
  rfl
def q_X12_findsChained_31__4 (k23 : Nat → Int32 → wg_M → Option (Int32 × wg_M)) (n : Nat) (x1 : Int32) (s4 : wg_M) (v5 : Int32) : Option (Int32 × wg_M) := f_X12_findsChained_31 k23 n 0 x1 v5 s4
def q_X12_findsChained_31__3 (k23 : Nat → Int32 → wg_M → Option (Int32 × wg_M)) (n : Nat) (x1 : Int32) (x2 : Int32) (s4 : wg_M) : Option (Int32 × wg_M) := wg_let (x2 + (1 : Int32)) (q_X12_findsChained_31__4 k23 n x1 s4)
def q_X12_findsChained_31__2 (k23 : Nat → Int32 → wg_M → Option (Int32 × wg_M)) (n : Nat) (x1 : Int32) (x2 : Int32) (v2 : Int32) (s3 : wg_M) : Option (Int32 × wg_M) := wg_sa 14 s3 28 x2 v2 (q_X12_findsChained_31__3 k23 n x1 x2)
def q_X12_findsChained_31__1 (k23 : Nat → Int32 → wg_M → Option (Int32 × wg_M)) (σ : wg_M) (v1 : Int32) : Option (Int32 × wg_M) := k23 0 v1 σ
theorem e_X12_findsChained_31__1 (k23 : Nat → Int32 → wg_M → Option (Int32 × wg_M)) (σ : wg_M) (v1 : Int32) : q_X12_findsChained_31__1 k23 σ v1 = k23 0 v1 σ := rfl
theorem e_X12_findsChained_31__2 (k23 : Nat → Int32 → wg_M → Option (Int32 × wg_M)) (n : Nat) (x1 : Int32) (x2 : Int32) (v2 : Int32) (s3 : wg_M) : q_X12_findsChained_31__2 k23 n x1 x2 v2 s3 = wg_sa 14 s3 28 x2 v2 (q_X12_findsChained_31__3 k23 n x1 x2) := rfl
theorem e_X12_findsChained_31__3 (k23 : Nat → Int32 → wg_M → Option (Int32 × wg_M)) (n : Nat) (x1 : Int32) (x2 : Int32) (s4 : wg_M) : q_X12_findsChained_31__3 k23 n x1 x2 s4 = wg_let (x2 + (1 : Int32)) (q_X12_findsChained_31__4 k23 n x1 s4) := rfl
theorem e_X12_findsChained_31__4 (k23 : Nat → Int32 → wg_M → Option (Int32 × wg_M)) (n : Nat) (x1 : Int32) (s4 : wg_M) (v5 : Int32) : q_X12_findsChained_31__4 k23 n x1 s4 v5 = f_X12_findsChained_31 k23 n 0 x1 v5 s4 := rfl
theorem e_X12_findsChained_31 (k23 : Nat → Int32 → wg_M → Option (Int32 × wg_M)) (n : Nat) (x1 : Int32) (x2 : Int32) (σ : wg_M) : f_X12_findsChained_31 k23 (n + 1) 0 x1 x2 σ = if (14 : Int32) ≤ x2 then (wg_let (x1 + (1 : Int32)) (q_X12_findsChained_31__1 k23 σ)) else (wg_bd (f_X12_longestFrom 0 x2 σ) (q_X12_findsChained_31__2 k23 n x1 x2)) := by
  rw [f_X12_findsChained_31]
  simp only [sm_n28, sm_r0_51]
  rfl
theorem e_X12_findsChained_23 (n : Nat) (x1 : Int32) (σ : wg_M) : f_X12_findsChained_23 (n + 1) 0 x1 σ = if (14 : Int32) ≤ x1 then (f_X12_findsChained_62  wg_N 0 (0 : Int32) σ) else (f_X12_findsChained_31 (f_X12_findsChained_23  n) wg_N 0 x1 (0 : Int32) σ) := by
  rw [f_X12_findsChained_23]
def q_X12_findsChained_2__2 (n : Nat) (s1 : wg_M) (v2 : Int32) : Option (Int32 × wg_M) := f_X12_findsChained_2  n 0 v2 s1
def q_X12_findsChained_2__1 (n : Nat) (x1 : Int32) (s1 : wg_M) : Option (Int32 × wg_M) := wg_let (x1 + (1 : Int32)) (q_X12_findsChained_2__2 n s1)
theorem e_X12_findsChained_2__1 (n : Nat) (x1 : Int32) (s1 : wg_M) : q_X12_findsChained_2__1 n x1 s1 = wg_let (x1 + (1 : Int32)) (q_X12_findsChained_2__2 n s1) := rfl
theorem e_X12_findsChained_2__2 (n : Nat) (s1 : wg_M) (v2 : Int32) : q_X12_findsChained_2__2 n s1 v2 = f_X12_findsChained_2  n 0 v2 s1 := rfl
theorem e_X12_findsChained_2 (n : Nat) (x1 : Int32) (σ : wg_M) : f_X12_findsChained_2 (n + 1) 0 x1 σ = if (14 : Int32) ≤ x1 then (f_X12_findsChained_23  wg_N 0 (0 : Int32) σ) else (wg_sa 14 σ 28 x1 (1 : Int32) (q_X12_findsChained_2__1 n x1)) := by
  rw [f_X12_findsChained_2]
  simp only [sm_n28, sm_r0_51]
  rfl
theorem e_X12_findsChained (σ : wg_M) : f_X12_findsChained 0 σ = f_X12_findsChained_2  wg_N 0 (0 : Int32) σ := rfl
def q_X12_chain_70__1 (k47 : Nat → Int32 → Int32 → Int32 → wg_M → Option (Int32 × wg_M)) (x1 : Int32) (x2 : Int32) (σ : wg_M) (v1 : Int32) : Option (Int32 × wg_M) := k47 0 x1 x2 v1 σ
theorem e_X12_chain_70__1 (k47 : Nat → Int32 → Int32 → Int32 → wg_M → Option (Int32 × wg_M)) (x1 : Int32) (x2 : Int32) (σ : wg_M) (v1 : Int32) : q_X12_chain_70__1 k47 x1 x2 σ v1 = k47 0 x1 x2 v1 σ := rfl
theorem e_X12_chain_70 (k47 : Nat → Int32 → Int32 → Int32 → wg_M → Option (Int32 × wg_M)) (x1 : Int32) (x2 : Int32) (x3 : Int32) (σ : wg_M) : f_X12_chain_70 k47 0 x1 x2 x3 σ = wg_let (x3 + (1 : Int32)) (q_X12_chain_70__1 k47 x1 x2 σ) := rfl
def q_X12_chain_47__3 (n : Nat) (x1 : Int32) (x2 : Int32) (x3 : Int32) (σ : wg_M) (v2 : Int32) (v3 : Int32) : Option (Int32 × wg_M) := if v2 ≤ v3 then (f_X12_chain_70 (f_X12_chain_47  n) 0 x1 x2 x3 σ) else (f_X12_chain_70 (f_X12_chain_47  n) 0 x1 x3 x3 σ)
def q_X12_chain_47__2 (n : Nat) (x1 : Int32) (x2 : Int32) (x3 : Int32) (σ : wg_M) (v2 : Int32) : Option (Int32 × wg_M) := wg_ga 14 (σ 28) x2 (q_X12_chain_47__3 n x1 x2 x3 σ v2)
def q_X12_chain_47__1 (σ : wg_M) (v1 : Int32) : Option (Int32 × wg_M) := some (v1, σ)
theorem e_X12_chain_47__1 (σ : wg_M) (v1 : Int32) : q_X12_chain_47__1 σ v1 = some (v1, σ) := rfl
theorem e_X12_chain_47__2 (n : Nat) (x1 : Int32) (x2 : Int32) (x3 : Int32) (σ : wg_M) (v2 : Int32) : q_X12_chain_47__2 n x1 x2 x3 σ v2 = wg_ga 14 (σ 28) x2 (q_X12_chain_47__3 n x1 x2 x3 σ v2) := rfl
theorem e_X12_chain_47__3 (n : Nat) (x1 : Int32) (x2 : Int32) (x3 : Int32) (σ : wg_M) (v2 : Int32) (v3 : Int32) : q_X12_chain_47__3 n x1 x2 x3 σ v2 v3 = if v2 ≤ v3 then (f_X12_chain_70 (f_X12_chain_47  n) 0 x1 x2 x3 σ) else (f_X12_chain_70 (f_X12_chain_47  n) 0 x1 x3 x3 σ) := rfl
theorem e_X12_chain_47 (n : Nat) (x1 : Int32) (x2 : Int32) (x3 : Int32) (σ : wg_M) : f_X12_chain_47 (n + 1) 0 x1 x2 x3 σ = if (14 : Int32) ≤ x3 then (if x1 = 0 then (wg_ga 14 (σ 28) x2 (q_X12_chain_47__1 σ)) else (some (x2, σ))) else (wg_ga 14 (σ 28) x3 (q_X12_chain_47__2 n x1 x2 x3 σ)) := by
  rw [f_X12_chain_47]
  simp only [sm_n28, sm_r0_51]
  rfl
def q_X12_chain__3 (x1 : Int32) (v4 : Int32) (s5 : wg_M) : Option (Int32 × wg_M) := if v4 = 0 then (some ((-1 : Int32), s5)) else (f_X12_chain_47  wg_N 0 x1 (0 : Int32) (1 : Int32) s5)
def q_X12_chain__2 (x1 : Int32) (v2 : Int32) (s3 : wg_M) : Option (Int32 × wg_M) := if v2 = 0 then (some ((-1 : Int32), s3)) else (if (s3 0 49) = 0 then (if x1 = 0 then (some ((0 : Int32), s3)) else (some ((-1 : Int32), s3))) else (wg_bd (f_X12_findsChained 0 s3) (q_X12_chain__3 x1)))
def q_X12_chain__1 (x1 : Int32) (s1 : wg_M) : Option (Int32 × wg_M) := wg_bd (f_X12_isIn 0 x1 (0 : Int32) (1 : Int32) s1) (q_X12_chain__2 x1)
theorem e_X12_chain__1 (x1 : Int32) (s1 : wg_M) : q_X12_chain__1 x1 s1 = wg_bd (f_X12_isIn 0 x1 (0 : Int32) (1 : Int32) s1) (q_X12_chain__2 x1) := rfl
theorem e_X12_chain__2 (x1 : Int32) (v2 : Int32) (s3 : wg_M) : q_X12_chain__2 x1 v2 s3 = if v2 = 0 then (some ((-1 : Int32), s3)) else (if (s3 0 49) = 0 then (if x1 = 0 then (some ((0 : Int32), s3)) else (some ((-1 : Int32), s3))) else (wg_bd (f_X12_findsChained 0 s3) (q_X12_chain__3 x1))) := rfl
theorem e_X12_chain__3 (x1 : Int32) (v4 : Int32) (s5 : wg_M) : q_X12_chain__3 x1 v4 s5 = if v4 = 0 then (some ((-1 : Int32), s5)) else (f_X12_chain_47  wg_N 0 x1 (0 : Int32) (1 : Int32) s5) := rfl
theorem e_X12_chain (x1 : Int32) (σ : wg_M) : f_X12_chain 0 x1 σ = wg_st σ 0 0 (0 : Int32) (q_X12_chain__1 x1) := rfl
def q_X12_parcel__5 (s8 : wg_M) : Option (Int32 × wg_M) := some ((1 : Int32), s8)
def q_X12_parcel__4 (x1 : Int32) (x2 : Int32) (x3 : Int32) (v6 : Int32) (s7 : wg_M) : Option (Int32 × wg_M) := if v6 = 0 then (some ((0 : Int32), s7)) else (wg_sa 20 s7 29 (((10 : Int32) * x2) + x1) x3 q_X12_parcel__5)
def q_X12_parcel__3 (x1 : Int32) (x2 : Int32) (x3 : Int32) (v4 : Int32) (s5 : wg_M) : Option (Int32 × wg_M) := if v4 = 0 then (some ((0 : Int32), s5)) else (wg_bd (f_X12_isIn 0 x3 (0 : Int32) (99 : Int32) s5) (q_X12_parcel__4 x1 x2 x3))
def q_X12_parcel__2 (x1 : Int32) (x2 : Int32) (x3 : Int32) (v2 : Int32) (s3 : wg_M) : Option (Int32 × wg_M) := if v2 = 0 then (some ((0 : Int32), s3)) else (wg_bd (f_X12_isIn 0 x2 (0 : Int32) (1 : Int32) s3) (q_X12_parcel__3 x1 x2 x3))
def q_X12_parcel__1 (x1 : Int32) (x2 : Int32) (x3 : Int32) (s1 : wg_M) : Option (Int32 × wg_M) := wg_bd (f_X12_isIn 0 x1 (0 : Int32) (9 : Int32) s1) (q_X12_parcel__2 x1 x2 x3)
theorem e_X12_parcel__1 (x1 : Int32) (x2 : Int32) (x3 : Int32) (s1 : wg_M) : q_X12_parcel__1 x1 x2 x3 s1 = wg_bd (f_X12_isIn 0 x1 (0 : Int32) (9 : Int32) s1) (q_X12_parcel__2 x1 x2 x3) := rfl
theorem e_X12_parcel__2 (x1 : Int32) (x2 : Int32) (x3 : Int32) (v2 : Int32) (s3 : wg_M) : q_X12_parcel__2 x1 x2 x3 v2 s3 = if v2 = 0 then (some ((0 : Int32), s3)) else (wg_bd (f_X12_isIn 0 x2 (0 : Int32) (1 : Int32) s3) (q_X12_parcel__3 x1 x2 x3)) := rfl
theorem e_X12_parcel__3 (x1 : Int32) (x2 : Int32) (x3 : Int32) (v4 : Int32) (s5 : wg_M) : q_X12_parcel__3 x1 x2 x3 v4 s5 = if v4 = 0 then (some ((0 : Int32), s5)) else (wg_bd (f_X12_isIn 0 x3 (0 : Int32) (99 : Int32) s5) (q_X12_parcel__4 x1 x2 x3)) := rfl
theorem e_X12_parcel__4 (x1 : Int32) (x2 : Int32) (x3 : Int32) (v6 : Int32) (s7 : wg_M) : q_X12_parcel__4 x1 x2 x3 v6 s7 = if v6 = 0 then (some ((0 : Int32), s7)) else (wg_sa 20 s7 29 (((10 : Int32) * x2) + x1) x3 q_X12_parcel__5) := rfl
theorem e_X12_parcel__5 (s8 : wg_M) : q_X12_parcel__5 s8 = some ((1 : Int32), s8) := rfl
theorem e_X12_parcel (x1 : Int32) (x2 : Int32) (x3 : Int32) (σ : wg_M) : f_X12_parcel 0 x1 x2 x3 σ = wg_st σ 0 0 (0 : Int32) (q_X12_parcel__1 x1 x2 x3) := by
  unfold f_X12_parcel
  simp only [sm_n29, sm_r0_52]
  rfl
def q_X12_worthOf_6__3 (n : Nat) (x1 : Int32) (x3 : Int32) (σ : wg_M) (v2 : Int32) (v3 : Int32) : Option (Int32 × wg_M) := f_X12_worthOf_6  n 0 x1 x3 v2 v3 σ
def q_X12_worthOf_6__2 (n : Nat) (x1 : Int32) (x3 : Int32) (x5 : Int32) (σ : wg_M) (v2 : Int32) : Option (Int32 × wg_M) := wg_let (x5 + (1 : Int32)) (q_X12_worthOf_6__3 n x1 x3 σ v2)
def q_X12_worthOf_6__1 (n : Nat) (x1 : Int32) (x3 : Int32) (x4 : Int32) (x5 : Int32) (σ : wg_M) (v1 : Int32) : Option (Int32 × wg_M) := wg_let (x4 + v1) (q_X12_worthOf_6__2 n x1 x3 x5 σ)
theorem e_X12_worthOf_6__1 (n : Nat) (x1 : Int32) (x3 : Int32) (x4 : Int32) (x5 : Int32) (σ : wg_M) (v1 : Int32) : q_X12_worthOf_6__1 n x1 x3 x4 x5 σ v1 = wg_let (x4 + v1) (q_X12_worthOf_6__2 n x1 x3 x5 σ) := rfl
theorem e_X12_worthOf_6__2 (n : Nat) (x1 : Int32) (x3 : Int32) (x5 : Int32) (σ : wg_M) (v2 : Int32) : q_X12_worthOf_6__2 n x1 x3 x5 σ v2 = wg_let (x5 + (1 : Int32)) (q_X12_worthOf_6__3 n x1 x3 σ v2) := rfl
theorem e_X12_worthOf_6__3 (n : Nat) (x1 : Int32) (x3 : Int32) (σ : wg_M) (v2 : Int32) (v3 : Int32) : q_X12_worthOf_6__3 n x1 x3 σ v2 v3 = f_X12_worthOf_6  n 0 x1 x3 v2 v3 σ := rfl
theorem e_X12_worthOf_6 (n : Nat) (x1 : Int32) (x3 : Int32) (x4 : Int32) (x5 : Int32) (σ : wg_M) : f_X12_worthOf_6 (n + 1) 0 x1 x3 x4 x5 σ = if x3 ≤ x5 then (some (x4, σ)) else (wg_ga 20 (σ 29) (((10 : Int32) * x1) + x5) (q_X12_worthOf_6__1 n x1 x3 x4 x5 σ)) := by
  rw [f_X12_worthOf_6]
  simp only [sm_n29, sm_r0_52]
  rfl
theorem e_X12_worthOf (x1 : Int32) (x2 : Int32) (x3 : Int32) (σ : wg_M) : f_X12_worthOf 0 x1 x2 x3 σ = f_X12_worthOf_6  wg_N 0 x1 x3 (0 : Int32) x2 σ := rfl
def q_X12_lesserPart__3 (v5 : Int32) (s6 : wg_M) : Option (Int32 × wg_M) := some (v5, s6)
def q_X12_lesserPart__2 (v1 : Int32) (v3 : Int32) (s4 : wg_M) : Option (Int32 × wg_M) := wg_bd (f_X12_lesser 0 v1 v3 s4) q_X12_lesserPart__3
def q_X12_lesserPart__1 (x1 : Int32) (v1 : Int32) (s2 : wg_M) : Option (Int32 × wg_M) := wg_bd (f_X12_worthOf 0 (0 : Int32) x1 (10 : Int32) s2) (q_X12_lesserPart__2 v1)
theorem e_X12_lesserPart__1 (x1 : Int32) (v1 : Int32) (s2 : wg_M) : q_X12_lesserPart__1 x1 v1 s2 = wg_bd (f_X12_worthOf 0 (0 : Int32) x1 (10 : Int32) s2) (q_X12_lesserPart__2 v1) := rfl
theorem e_X12_lesserPart__2 (v1 : Int32) (v3 : Int32) (s4 : wg_M) : q_X12_lesserPart__2 v1 v3 s4 = wg_bd (f_X12_lesser 0 v1 v3 s4) q_X12_lesserPart__3 := rfl
theorem e_X12_lesserPart__3 (v5 : Int32) (s6 : wg_M) : q_X12_lesserPart__3 v5 s6 = some (v5, s6) := rfl
theorem e_X12_lesserPart (x1 : Int32) (σ : wg_M) : f_X12_lesserPart 0 x1 σ = wg_bd (f_X12_worthOf 0 (0 : Int32) (0 : Int32) x1 σ) (q_X12_lesserPart__1 x1) := rfl
def q_X12_cut_42__1 (k21 : Nat → Int32 → Int32 → Int32 → wg_M → Option (Int32 × wg_M)) (x1 : Int32) (x2 : Int32) (σ : wg_M) (v1 : Int32) : Option (Int32 × wg_M) := k21 0 x1 x2 v1 σ
theorem e_X12_cut_42__1 (k21 : Nat → Int32 → Int32 → Int32 → wg_M → Option (Int32 × wg_M)) (x1 : Int32) (x2 : Int32) (σ : wg_M) (v1 : Int32) : q_X12_cut_42__1 k21 x1 x2 σ v1 = k21 0 x1 x2 v1 σ := rfl
theorem e_X12_cut_42 (k21 : Nat → Int32 → Int32 → Int32 → wg_M → Option (Int32 × wg_M)) (x1 : Int32) (x2 : Int32) (x3 : Int32) (σ : wg_M) : f_X12_cut_42 k21 0 x1 x2 x3 σ = wg_let (x3 + (1 : Int32)) (q_X12_cut_42__1 k21 x1 x2 σ) := rfl
def q_X12_cut_77__4 (v3 : Int32) (s4 : wg_M) : Option (Int32 × wg_M) := some (v3, s4)
def q_X12_cut_77__3 (v1 : Int32) (s2 : wg_M) : Option (Int32 × wg_M) := some (v1, s2)
def q_X12_cut_77__2 (v7 : Int32) (s8 : wg_M) : Option (Int32 × wg_M) := some (v7, s8)
def q_X12_cut_77__1 (v5 : Int32) (s6 : wg_M) : Option (Int32 × wg_M) := some (v5, s6)
theorem e_X12_cut_77__1 (v5 : Int32) (s6 : wg_M) : q_X12_cut_77__1 v5 s6 = some (v5, s6) := rfl
theorem e_X12_cut_77__2 (v7 : Int32) (s8 : wg_M) : q_X12_cut_77__2 v7 s8 = some (v7, s8) := rfl
theorem e_X12_cut_77__3 (v1 : Int32) (s2 : wg_M) : q_X12_cut_77__3 v1 s2 = some (v1, s2) := rfl
theorem e_X12_cut_77__4 (v3 : Int32) (s4 : wg_M) : q_X12_cut_77__4 v3 s4 = some (v3, s4) := rfl
theorem e_X12_cut_77 (x1 : Int32) (x2 : Int32) (t0 : Int32) (σ : wg_M) : f_X12_cut_77 0 x1 x2 t0 σ = if x1 = (1 : Int32) then (if t0 = 0 then (wg_bd (f_X12_worthOf 0 (1 : Int32) x2 (10 : Int32) σ) q_X12_cut_77__1) else (wg_bd (f_X12_worthOf 0 (1 : Int32) (0 : Int32) x2 σ) q_X12_cut_77__2)) else (if t0 = 0 then (wg_bd (f_X12_worthOf 0 (0 : Int32) (0 : Int32) x2 σ) q_X12_cut_77__3) else (wg_bd (f_X12_worthOf 0 (0 : Int32) x2 (10 : Int32) σ) q_X12_cut_77__4)) := rfl
def q_X12_cut_21__4 (n : Nat) (x1 : Int32) (x2 : Int32) (x3 : Int32) (v5 : Int32) (v7 : Int32) (s8 : wg_M) : Option (Int32 × wg_M) := if v5 ≤ v7 then (f_X12_cut_42 (f_X12_cut_21  n) 0 x1 x2 x3 s8) else (f_X12_cut_42 (f_X12_cut_21  n) 0 x1 x3 x3 s8)
def q_X12_cut_21__3 (n : Nat) (x1 : Int32) (x2 : Int32) (x3 : Int32) (v5 : Int32) (s6 : wg_M) : Option (Int32 × wg_M) := wg_bd (f_X12_lesserPart 0 x2 s6) (q_X12_cut_21__4 n x1 x2 x3 v5)
def q_X12_cut_21__2 (x1 : Int32) (x2 : Int32) (v1 : Int32) (v3 : Int32) (s4 : wg_M) : Option (Int32 × wg_M) := if v1 < v3 then (f_X12_cut_77  0 x1 x2 (0 : Int32) s4) else (f_X12_cut_77  0 x1 x2 (1 : Int32) s4)
def q_X12_cut_21__1 (x1 : Int32) (x2 : Int32) (v1 : Int32) (s2 : wg_M) : Option (Int32 × wg_M) := wg_bd (f_X12_worthOf 0 (1 : Int32) x2 (10 : Int32) s2) (q_X12_cut_21__2 x1 x2 v1)
theorem e_X12_cut_21__1 (x1 : Int32) (x2 : Int32) (v1 : Int32) (s2 : wg_M) : q_X12_cut_21__1 x1 x2 v1 s2 = wg_bd (f_X12_worthOf 0 (1 : Int32) x2 (10 : Int32) s2) (q_X12_cut_21__2 x1 x2 v1) := rfl
theorem e_X12_cut_21__2 (x1 : Int32) (x2 : Int32) (v1 : Int32) (v3 : Int32) (s4 : wg_M) : q_X12_cut_21__2 x1 x2 v1 v3 s4 = if v1 < v3 then (f_X12_cut_77  0 x1 x2 (0 : Int32) s4) else (f_X12_cut_77  0 x1 x2 (1 : Int32) s4) := rfl
theorem e_X12_cut_21__3 (n : Nat) (x1 : Int32) (x2 : Int32) (x3 : Int32) (v5 : Int32) (s6 : wg_M) : q_X12_cut_21__3 n x1 x2 x3 v5 s6 = wg_bd (f_X12_lesserPart 0 x2 s6) (q_X12_cut_21__4 n x1 x2 x3 v5) := rfl
theorem e_X12_cut_21__4 (n : Nat) (x1 : Int32) (x2 : Int32) (x3 : Int32) (v5 : Int32) (v7 : Int32) (s8 : wg_M) : q_X12_cut_21__4 n x1 x2 x3 v5 v7 s8 = if v5 ≤ v7 then (f_X12_cut_42 (f_X12_cut_21  n) 0 x1 x2 x3 s8) else (f_X12_cut_42 (f_X12_cut_21  n) 0 x1 x3 x3 s8) := rfl
theorem e_X12_cut_21 (n : Nat) (x1 : Int32) (x2 : Int32) (x3 : Int32) (σ : wg_M) : f_X12_cut_21 (n + 1) 0 x1 x2 x3 σ = if (10 : Int32) ≤ x3 then (if x1 = 0 then (some (x2, σ)) else (wg_bd (f_X12_worthOf 0 (1 : Int32) (0 : Int32) x2 σ) (q_X12_cut_21__1 x1 x2))) else (wg_bd (f_X12_lesserPart 0 x3 σ) (q_X12_cut_21__3 n x1 x2 x3)) := by
  rw [f_X12_cut_21]
  rfl
def q_X12_cut__2 (x1 : Int32) (v2 : Int32) (s3 : wg_M) : Option (Int32 × wg_M) := if v2 = 0 then (some ((-1 : Int32), s3)) else (f_X12_cut_21  wg_N 0 x1 (1 : Int32) (2 : Int32) s3)
def q_X12_cut__1 (x1 : Int32) (s1 : wg_M) : Option (Int32 × wg_M) := wg_bd (f_X12_isIn 0 x1 (0 : Int32) (2 : Int32) s1) (q_X12_cut__2 x1)
theorem e_X12_cut__1 (x1 : Int32) (s1 : wg_M) : q_X12_cut__1 x1 s1 = wg_bd (f_X12_isIn 0 x1 (0 : Int32) (2 : Int32) s1) (q_X12_cut__2 x1) := rfl
theorem e_X12_cut__2 (x1 : Int32) (v2 : Int32) (s3 : wg_M) : q_X12_cut__2 x1 v2 s3 = if v2 = 0 then (some ((-1 : Int32), s3)) else (f_X12_cut_21  wg_N 0 x1 (1 : Int32) (2 : Int32) s3) := rfl
theorem e_X12_cut (x1 : Int32) (σ : wg_M) : f_X12_cut 0 x1 σ = wg_st σ 0 0 (0 : Int32) (q_X12_cut__1 x1) := rfl
def q_X12_hard__7 (s8 : wg_M) : Option (Int32 × wg_M) := some (s8 0 53, s8)
def q_X12_hard__6 (s7 : wg_M) : Option (Int32 × wg_M) := wg_st s7 0 53 ((s7 0 53) + (1 : Int32)) q_X12_hard__7
def q_X12_hard__5 (x2 : Int32) (s6 : wg_M) : Option (Int32 × wg_M) := wg_sa 7 s6 31 (s6 0 53) x2 q_X12_hard__6
def q_X12_hard__4 (x1 : Int32) (x2 : Int32) (v4 : Int32) (s5 : wg_M) : Option (Int32 × wg_M) := if v4 = 0 then (some ((-1 : Int32), s5)) else (if (s5 0 53) = (7 : Int32) then (some ((-1 : Int32), s5)) else (wg_sa 7 s5 30 (s5 0 53) x1 (q_X12_hard__5 x2)))
def q_X12_hard__3 (x1 : Int32) (x2 : Int32) (v2 : Int32) (s3 : wg_M) : Option (Int32 × wg_M) := if v2 = 0 then (some ((-1 : Int32), s3)) else (wg_bd (f_X12_isIn 0 x2 (0 : Int32) (99 : Int32) s3) (q_X12_hard__4 x1 x2))
def q_X12_hard__2 (s9 : wg_M) : Option (Int32 × wg_M) := some ((0 : Int32), s9)
def q_X12_hard__1 (x1 : Int32) (x2 : Int32) (s1 : wg_M) : Option (Int32 × wg_M) := if x1 = (-1 : Int32) then (wg_st s1 0 53 (0 : Int32) q_X12_hard__2) else (wg_bd (f_X12_isIn 0 x1 (1 : Int32) (24 : Int32) s1) (q_X12_hard__3 x1 x2))
theorem e_X12_hard__1 (x1 : Int32) (x2 : Int32) (s1 : wg_M) : q_X12_hard__1 x1 x2 s1 = if x1 = (-1 : Int32) then (wg_st s1 0 53 (0 : Int32) q_X12_hard__2) else (wg_bd (f_X12_isIn 0 x1 (1 : Int32) (24 : Int32) s1) (q_X12_hard__3 x1 x2)) := rfl
theorem e_X12_hard__2 (s9 : wg_M) : q_X12_hard__2 s9 = some ((0 : Int32), s9) := rfl
theorem e_X12_hard__3 (x1 : Int32) (x2 : Int32) (v2 : Int32) (s3 : wg_M) : q_X12_hard__3 x1 x2 v2 s3 = if v2 = 0 then (some ((-1 : Int32), s3)) else (wg_bd (f_X12_isIn 0 x2 (0 : Int32) (99 : Int32) s3) (q_X12_hard__4 x1 x2)) := rfl
theorem e_X12_hard__4 (x1 : Int32) (x2 : Int32) (v4 : Int32) (s5 : wg_M) : q_X12_hard__4 x1 x2 v4 s5 = if v4 = 0 then (some ((-1 : Int32), s5)) else (if (s5 0 53) = (7 : Int32) then (some ((-1 : Int32), s5)) else (wg_sa 7 s5 30 (s5 0 53) x1 (q_X12_hard__5 x2))) := rfl
theorem e_X12_hard__5 (x2 : Int32) (s6 : wg_M) : q_X12_hard__5 x2 s6 = wg_sa 7 s6 31 (s6 0 53) x2 q_X12_hard__6 := rfl
theorem e_X12_hard__6 (s7 : wg_M) : q_X12_hard__6 s7 = wg_st s7 0 53 ((s7 0 53) + (1 : Int32)) q_X12_hard__7 := rfl
theorem e_X12_hard__7 (s8 : wg_M) : q_X12_hard__7 s8 = some (s8 0 53, s8) := rfl
theorem e_X12_hard (x1 : Int32) (x2 : Int32) (σ : wg_M) : f_X12_hard 0 x1 x2 σ = wg_st σ 0 0 (0 : Int32) (q_X12_hard__1 x1 x2) := by
  unfold f_X12_hard
  simp only [sm_n30, sm_n31, sm_r0_54, sm_r0_55]
  rfl
def q_X12_lateBy_39__1 (k10 : Nat → Int32 → Int32 → Int32 → Int32 → wg_M → Option (Int32 × wg_M)) (x1 : Int32) (x2 : Int32) (x3 : Int32) (σ : wg_M) (v1 : Int32) : Option (Int32 × wg_M) := k10 0 x1 x2 x3 v1 σ
theorem e_X12_lateBy_39__1 (k10 : Nat → Int32 → Int32 → Int32 → Int32 → wg_M → Option (Int32 × wg_M)) (x1 : Int32) (x2 : Int32) (x3 : Int32) (σ : wg_M) (v1 : Int32) : q_X12_lateBy_39__1 k10 x1 x2 x3 σ v1 = k10 0 x1 x2 x3 v1 σ := rfl
theorem e_X12_lateBy_39 (k10 : Nat → Int32 → Int32 → Int32 → Int32 → wg_M → Option (Int32 × wg_M)) (x1 : Int32) (x2 : Int32) (x3 : Int32) (x4 : Int32) (σ : wg_M) : f_X12_lateBy_39 k10 0 x1 x2 x3 x4 σ = wg_let (x4 + (1 : Int32)) (q_X12_lateBy_39__1 k10 x1 x2 x3 σ) := rfl
def q_X12_lateBy_10__6 (n : Nat) (x1 : Int32) (x2 : Int32) (x4 : Int32) (s6 : wg_M) (v8 : Int32) : Option (Int32 × wg_M) := f_X12_lateBy_39 (f_X12_lateBy_10  n) 0 x1 x2 v8 x4 s6
def q_X12_lateBy_10__5 (n : Nat) (x1 : Int32) (x2 : Int32) (x3 : Int32) (x4 : Int32) (s6 : wg_M) (v7 : Int32) : Option (Int32 × wg_M) := wg_let (x3 + v7) (q_X12_lateBy_10__6 n x1 x2 x4 s6)
def q_X12_lateBy_10__4 (n : Nat) (x1 : Int32) (x2 : Int32) (x3 : Int32) (x4 : Int32) (v5 : Int32) (s6 : wg_M) : Option (Int32 × wg_M) := if v5 = 0 then (f_X12_lateBy_39 (f_X12_lateBy_10  n) 0 x1 x2 x3 x4 s6) else (wg_ga 7 (s6 30) x4 (q_X12_lateBy_10__5 n x1 x2 x3 x4 s6))
def q_X12_lateBy_10__3 (v3 : Int32) (s4 : wg_M) : Option (Int32 × wg_M) := some (v3, s4)
def q_X12_lateBy_10__2 (x3 : Int32) (σ : wg_M) (v1 : Int32) (v2 : Int32) : Option (Int32 × wg_M) := wg_bd (f_X12_greater 0 (x3 - v1) v2 σ) q_X12_lateBy_10__3
def q_X12_lateBy_10__1 (x1 : Int32) (x2 : Int32) (x3 : Int32) (σ : wg_M) (v1 : Int32) : Option (Int32 × wg_M) := wg_ga 128 (σ 32) (x1 ||| ((1 : Int32) <<< (x2 &&& 31))) (q_X12_lateBy_10__2 x3 σ v1)
theorem e_X12_lateBy_10__1 (x1 : Int32) (x2 : Int32) (x3 : Int32) (σ : wg_M) (v1 : Int32) : q_X12_lateBy_10__1 x1 x2 x3 σ v1 = wg_ga 128 (σ 32) (x1 ||| ((1 : Int32) <<< (x2 &&& 31))) (q_X12_lateBy_10__2 x3 σ v1) := rfl
theorem e_X12_lateBy_10__2 (x3 : Int32) (σ : wg_M) (v1 : Int32) (v2 : Int32) : q_X12_lateBy_10__2 x3 σ v1 v2 = wg_bd (f_X12_greater 0 (x3 - v1) v2 σ) q_X12_lateBy_10__3 := rfl
theorem e_X12_lateBy_10__3 (v3 : Int32) (s4 : wg_M) : q_X12_lateBy_10__3 v3 s4 = some (v3, s4) := rfl
theorem e_X12_lateBy_10__4 (n : Nat) (x1 : Int32) (x2 : Int32) (x3 : Int32) (x4 : Int32) (v5 : Int32) (s6 : wg_M) : q_X12_lateBy_10__4 n x1 x2 x3 x4 v5 s6 = if v5 = 0 then (f_X12_lateBy_39 (f_X12_lateBy_10  n) 0 x1 x2 x3 x4 s6) else (wg_ga 7 (s6 30) x4 (q_X12_lateBy_10__5 n x1 x2 x3 x4 s6)) := rfl
theorem e_X12_lateBy_10__5 (n : Nat) (x1 : Int32) (x2 : Int32) (x3 : Int32) (x4 : Int32) (s6 : wg_M) (v7 : Int32) : q_X12_lateBy_10__5 n x1 x2 x3 x4 s6 v7 = wg_let (x3 + v7) (q_X12_lateBy_10__6 n x1 x2 x4 s6) := rfl
theorem e_X12_lateBy_10__6 (n : Nat) (x1 : Int32) (x2 : Int32) (x4 : Int32) (s6 : wg_M) (v8 : Int32) : q_X12_lateBy_10__6 n x1 x2 x4 s6 v8 = f_X12_lateBy_39 (f_X12_lateBy_10  n) 0 x1 x2 v8 x4 s6 := rfl
theorem e_X12_lateBy_10 (n : Nat) (x1 : Int32) (x2 : Int32) (x3 : Int32) (x4 : Int32) (σ : wg_M) : f_X12_lateBy_10 (n + 1) 0 x1 x2 x3 x4 σ = if (σ 0 53) ≤ x4 then (wg_ga 7 (σ 31) x2 (q_X12_lateBy_10__1 x1 x2 x3 σ)) else (wg_bd (f_X12_has 0 x1 x4 σ) (q_X12_lateBy_10__4 n x1 x2 x3 x4)) := by
  rw [f_X12_lateBy_10]
  simp only [sm_n30, sm_n31, sm_n32, sm_r0_54, sm_r0_55, sm_r0_56]
  rfl
def q_X12_lateBy__1 (x1 : Int32) (x2 : Int32) (σ : wg_M) (v1 : Int32) : Option (Int32 × wg_M) := f_X12_lateBy_10  wg_N 0 x1 x2 v1 (0 : Int32) σ
theorem e_X12_lateBy__1 (x1 : Int32) (x2 : Int32) (σ : wg_M) (v1 : Int32) : q_X12_lateBy__1 x1 x2 σ v1 = f_X12_lateBy_10  wg_N 0 x1 x2 v1 (0 : Int32) σ := rfl
theorem e_X12_lateBy (x1 : Int32) (x2 : Int32) (σ : wg_M) : f_X12_lateBy 0 x1 x2 σ = wg_ga 7 (σ 30) x2 (q_X12_lateBy__1 x1 x2 σ) := by
  unfold f_X12_lateBy
  simp only [sm_n30, sm_r0_54]
  rfl
def q_X12_findsLate_64__1 (k35 : Nat → Int32 → Int32 → Int32 → wg_M → Option (Int32 × wg_M)) (x1 : Int32) (x2 : Int32) (σ : wg_M) (v1 : Int32) : Option (Int32 × wg_M) := k35 0 x1 x2 v1 σ
theorem e_X12_findsLate_64__1 (k35 : Nat → Int32 → Int32 → Int32 → wg_M → Option (Int32 × wg_M)) (x1 : Int32) (x2 : Int32) (σ : wg_M) (v1 : Int32) : q_X12_findsLate_64__1 k35 x1 x2 σ v1 = k35 0 x1 x2 v1 σ := rfl
theorem e_X12_findsLate_64 (k35 : Nat → Int32 → Int32 → Int32 → wg_M → Option (Int32 × wg_M)) (x1 : Int32) (x2 : Int32) (x3 : Int32) (σ : wg_M) : f_X12_findsLate_64 k35 0 x1 x2 x3 σ = wg_let (x3 + (1 : Int32)) (q_X12_findsLate_64__1 k35 x1 x2 σ) := rfl
def q_X12_findsLate_35__5 (k9 : Nat → Int32 → wg_M → Option (Int32 × wg_M)) (n : Nat) (x1 : Int32) (x3 : Int32) (v7 : Int32) (s8 : wg_M) : Option (Int32 × wg_M) := f_X12_findsLate_64 (f_X12_findsLate_35 k9 n) 0 x1 v7 x3 s8
def q_X12_findsLate_35__4 (k9 : Nat → Int32 → wg_M → Option (Int32 × wg_M)) (n : Nat) (x1 : Int32) (x2 : Int32) (x3 : Int32) (v5 : Int32) (s6 : wg_M) : Option (Int32 × wg_M) := wg_bd (f_X12_lesser 0 x2 v5 s6) (q_X12_findsLate_35__5 k9 n x1 x3)
def q_X12_findsLate_35__3 (k9 : Nat → Int32 → wg_M → Option (Int32 × wg_M)) (n : Nat) (x1 : Int32) (x2 : Int32) (x3 : Int32) (v3 : Int32) (s4 : wg_M) : Option (Int32 × wg_M) := if v3 = 0 then (wg_bd (f_X12_lateBy 0 x1 x3 s4) (q_X12_findsLate_35__4 k9 n x1 x2 x3)) else (f_X12_findsLate_64 (f_X12_findsLate_35 k9 n) 0 x1 x2 x3 s4)
def q_X12_findsLate_35__2 (k9 : Nat → Int32 → wg_M → Option (Int32 × wg_M)) (s1 : wg_M) (v2 : Int32) : Option (Int32 × wg_M) := k9 0 v2 s1
def q_X12_findsLate_35__1 (k9 : Nat → Int32 → wg_M → Option (Int32 × wg_M)) (x1 : Int32) (s1 : wg_M) : Option (Int32 × wg_M) := wg_let (x1 + (-1 : Int32)) (q_X12_findsLate_35__2 k9 s1)
theorem e_X12_findsLate_35__1 (k9 : Nat → Int32 → wg_M → Option (Int32 × wg_M)) (x1 : Int32) (s1 : wg_M) : q_X12_findsLate_35__1 k9 x1 s1 = wg_let (x1 + (-1 : Int32)) (q_X12_findsLate_35__2 k9 s1) := rfl
theorem e_X12_findsLate_35__2 (k9 : Nat → Int32 → wg_M → Option (Int32 × wg_M)) (s1 : wg_M) (v2 : Int32) : q_X12_findsLate_35__2 k9 s1 v2 = k9 0 v2 s1 := rfl
theorem e_X12_findsLate_35__3 (k9 : Nat → Int32 → wg_M → Option (Int32 × wg_M)) (n : Nat) (x1 : Int32) (x2 : Int32) (x3 : Int32) (v3 : Int32) (s4 : wg_M) : q_X12_findsLate_35__3 k9 n x1 x2 x3 v3 s4 = if v3 = 0 then (wg_bd (f_X12_lateBy 0 x1 x3 s4) (q_X12_findsLate_35__4 k9 n x1 x2 x3)) else (f_X12_findsLate_64 (f_X12_findsLate_35 k9 n) 0 x1 x2 x3 s4) := rfl
theorem e_X12_findsLate_35__4 (k9 : Nat → Int32 → wg_M → Option (Int32 × wg_M)) (n : Nat) (x1 : Int32) (x2 : Int32) (x3 : Int32) (v5 : Int32) (s6 : wg_M) : q_X12_findsLate_35__4 k9 n x1 x2 x3 v5 s6 = wg_bd (f_X12_lesser 0 x2 v5 s6) (q_X12_findsLate_35__5 k9 n x1 x3) := rfl
theorem e_X12_findsLate_35__5 (k9 : Nat → Int32 → wg_M → Option (Int32 × wg_M)) (n : Nat) (x1 : Int32) (x3 : Int32) (v7 : Int32) (s8 : wg_M) : q_X12_findsLate_35__5 k9 n x1 x3 v7 s8 = f_X12_findsLate_64 (f_X12_findsLate_35 k9 n) 0 x1 v7 x3 s8 := rfl
theorem e_X12_findsLate_35 (k9 : Nat → Int32 → wg_M → Option (Int32 × wg_M)) (n : Nat) (x1 : Int32) (x2 : Int32) (x3 : Int32) (σ : wg_M) : f_X12_findsLate_35 k9 (n + 1) 0 x1 x2 x3 σ = if (σ 0 53) ≤ x3 then (wg_sa 128 σ 32 x1 x2 (q_X12_findsLate_35__1 k9 x1)) else (wg_bd (f_X12_has 0 x1 x3 σ) (q_X12_findsLate_35__3 k9 n x1 x2 x3)) := by
  rw [f_X12_findsLate_35]
  simp only [sm_n32, sm_r0_56]
  rfl
theorem e_X12_findsLate_32 (k9 : Nat → Int32 → wg_M → Option (Int32 × wg_M)) (x1 : Int32) (t0 : Int32) (σ : wg_M) : f_X12_findsLate_32 k9 0 x1 t0 σ = f_X12_findsLate_35 k9 wg_N 0 x1 t0 (0 : Int32) σ := rfl
theorem e_X12_findsLate_9 (n : Nat) (x1 : Int32) (σ : wg_M) : f_X12_findsLate_9 (n + 1) 0 x1 σ = if x1 < 0 then (some (0, σ)) else (if x1 = (((1 : Int32) <<< ((σ 0 53) &&& 31)) - (1 : Int32)) then (f_X12_findsLate_32 (f_X12_findsLate_9  n) 0 x1 (0 : Int32) σ) else (f_X12_findsLate_32 (f_X12_findsLate_9  n) 0 x1 (100000000 : Int32) σ)) := by
  rw [f_X12_findsLate_9]
def q_X12_findsLate__1 (σ : wg_M) (v1 : Int32) : Option (Int32 × wg_M) := f_X12_findsLate_9  wg_N 0 v1 σ
theorem e_X12_findsLate__1 (σ : wg_M) (v1 : Int32) : q_X12_findsLate__1 σ v1 = f_X12_findsLate_9  wg_N 0 v1 σ := rfl
theorem e_X12_findsLate (σ : wg_M) : f_X12_findsLate 0 σ = wg_let (((1 : Int32) <<< ((σ 0 53) &&& 31)) - (1 : Int32)) (q_X12_findsLate__1 σ) := rfl
def q_X12_hears_85__1 (k61 : Nat → Int32 → Int32 → Int32 → Int32 → wg_M → Option (Int32 × wg_M)) (x1 : Int32) (x2 : Int32) (x4 : Int32) (σ : wg_M) (v1 : Int32) : Option (Int32 × wg_M) := k61 0 x1 x2 v1 x4 σ
theorem e_X12_hears_85__1 (k61 : Nat → Int32 → Int32 → Int32 → Int32 → wg_M → Option (Int32 × wg_M)) (x1 : Int32) (x2 : Int32) (x4 : Int32) (σ : wg_M) (v1 : Int32) : q_X12_hears_85__1 k61 x1 x2 x4 σ v1 = k61 0 x1 x2 v1 x4 σ := rfl
theorem e_X12_hears_85 (k61 : Nat → Int32 → Int32 → Int32 → Int32 → wg_M → Option (Int32 × wg_M)) (x1 : Int32) (x2 : Int32) (x3 : Int32) (x4 : Int32) (σ : wg_M) : f_X12_hears_85 k61 0 x1 x2 x3 x4 σ = wg_let (x3 + (1 : Int32)) (q_X12_hears_85__1 k61 x1 x2 x4 σ) := rfl
def q_X12_hears_61__5 (k50 : Nat → Int32 → Int32 → Int32 → Int32 → wg_M → Option (Int32 × wg_M)) (x1 : Int32) (x3 : Int32) (s4 : wg_M) (v6 : Int32) (v7 : Int32) : Option (Int32 × wg_M) := k50 0 x1 v6 x3 v7 s4
def q_X12_hears_61__4 (k50 : Nat → Int32 → Int32 → Int32 → Int32 → wg_M → Option (Int32 × wg_M)) (x1 : Int32) (x3 : Int32) (x4 : Int32) (s4 : wg_M) (v6 : Int32) : Option (Int32 × wg_M) := wg_let (x4 + (1 : Int32)) (q_X12_hears_61__5 k50 x1 x3 s4 v6)
def q_X12_hears_61__3 (k50 : Nat → Int32 → Int32 → Int32 → Int32 → wg_M → Option (Int32 × wg_M)) (n : Nat) (x1 : Int32) (x2 : Int32) (x3 : Int32) (x4 : Int32) (v3 : Int32) (s4 : wg_M) (v5 : Int32) : Option (Int32 × wg_M) := if v3 ≤ v5 then (wg_let (x2 ||| ((1 : Int32) <<< (x3 &&& 31))) (q_X12_hears_61__4 k50 x1 x3 x4 s4)) else (f_X12_hears_85 (f_X12_hears_61 k50 n) 0 x1 x2 x3 x4 s4)
def q_X12_hears_61__2 (k50 : Nat → Int32 → Int32 → Int32 → Int32 → wg_M → Option (Int32 × wg_M)) (n : Nat) (x1 : Int32) (x2 : Int32) (x3 : Int32) (x4 : Int32) (v3 : Int32) (s4 : wg_M) : Option (Int32 × wg_M) := wg_ga 128 (s4 32) (0 : Int32) (q_X12_hears_61__3 k50 n x1 x2 x3 x4 v3 s4)
def q_X12_hears_61__1 (k50 : Nat → Int32 → Int32 → Int32 → Int32 → wg_M → Option (Int32 × wg_M)) (n : Nat) (x1 : Int32) (x2 : Int32) (x3 : Int32) (x4 : Int32) (v1 : Int32) (s2 : wg_M) : Option (Int32 × wg_M) := if v1 = 0 then (wg_bd (f_X12_lateBy 0 x2 x3 s2) (q_X12_hears_61__2 k50 n x1 x2 x3 x4)) else (f_X12_hears_85 (f_X12_hears_61 k50 n) 0 x1 x2 x3 x4 s2)
theorem e_X12_hears_61__1 (k50 : Nat → Int32 → Int32 → Int32 → Int32 → wg_M → Option (Int32 × wg_M)) (n : Nat) (x1 : Int32) (x2 : Int32) (x3 : Int32) (x4 : Int32) (v1 : Int32) (s2 : wg_M) : q_X12_hears_61__1 k50 n x1 x2 x3 x4 v1 s2 = if v1 = 0 then (wg_bd (f_X12_lateBy 0 x2 x3 s2) (q_X12_hears_61__2 k50 n x1 x2 x3 x4)) else (f_X12_hears_85 (f_X12_hears_61 k50 n) 0 x1 x2 x3 x4 s2) := rfl
theorem e_X12_hears_61__2 (k50 : Nat → Int32 → Int32 → Int32 → Int32 → wg_M → Option (Int32 × wg_M)) (n : Nat) (x1 : Int32) (x2 : Int32) (x3 : Int32) (x4 : Int32) (v3 : Int32) (s4 : wg_M) : q_X12_hears_61__2 k50 n x1 x2 x3 x4 v3 s4 = wg_ga 128 (s4 32) (0 : Int32) (q_X12_hears_61__3 k50 n x1 x2 x3 x4 v3 s4) := rfl
theorem e_X12_hears_61__3 (k50 : Nat → Int32 → Int32 → Int32 → Int32 → wg_M → Option (Int32 × wg_M)) (n : Nat) (x1 : Int32) (x2 : Int32) (x3 : Int32) (x4 : Int32) (v3 : Int32) (s4 : wg_M) (v5 : Int32) : q_X12_hears_61__3 k50 n x1 x2 x3 x4 v3 s4 v5 = if v3 ≤ v5 then (wg_let (x2 ||| ((1 : Int32) <<< (x3 &&& 31))) (q_X12_hears_61__4 k50 x1 x3 x4 s4)) else (f_X12_hears_85 (f_X12_hears_61 k50 n) 0 x1 x2 x3 x4 s4) := rfl
theorem e_X12_hears_61__4 (k50 : Nat → Int32 → Int32 → Int32 → Int32 → wg_M → Option (Int32 × wg_M)) (x1 : Int32) (x3 : Int32) (x4 : Int32) (s4 : wg_M) (v6 : Int32) : q_X12_hears_61__4 k50 x1 x3 x4 s4 v6 = wg_let (x4 + (1 : Int32)) (q_X12_hears_61__5 k50 x1 x3 s4 v6) := rfl
theorem e_X12_hears_61__5 (k50 : Nat → Int32 → Int32 → Int32 → Int32 → wg_M → Option (Int32 × wg_M)) (x1 : Int32) (x3 : Int32) (s4 : wg_M) (v6 : Int32) (v7 : Int32) : q_X12_hears_61__5 k50 x1 x3 s4 v6 v7 = k50 0 x1 v6 x3 v7 s4 := rfl
theorem e_X12_hears_61 (k50 : Nat → Int32 → Int32 → Int32 → Int32 → wg_M → Option (Int32 × wg_M)) (n : Nat) (x1 : Int32) (x2 : Int32) (x3 : Int32) (x4 : Int32) (σ : wg_M) : f_X12_hears_61 k50 (n + 1) 0 x1 x2 x3 x4 σ = wg_bd (f_X12_has 0 x2 x3 σ) (q_X12_hears_61__1 k50 n x1 x2 x3 x4) := by
  rw [f_X12_hears_61]
  simp only [sm_n32, sm_r0_56]
  rfl
theorem e_X12_hears_50 (n : Nat) (x1 : Int32) (x2 : Int32) (x3 : Int32) (x4 : Int32) (σ : wg_M) : f_X12_hears_50 (n + 1) 0 x1 x2 x3 x4 σ = if (x1 - (10 : Int32)) < x4 then (some (x3, σ)) else (f_X12_hears_61 (f_X12_hears_50  n) wg_N 0 x1 x2 (0 : Int32) x4 σ) := by
  rw [f_X12_hears_50]
def q_X12_hears_28__2 (s1 : wg_M) (v2 : Int32) : Option (Int32 × wg_M) := some (v2, s1)
def q_X12_hears_28__1 (x1 : Int32) (_u1 : Int32) (s1 : wg_M) : Option (Int32 × wg_M) := if x1 = 0 then (wg_ga 128 (s1 32) (0 : Int32) (q_X12_hears_28__2 s1)) else (f_X12_hears_50  wg_N 0 x1 (0 : Int32) (-1 : Int32) (0 : Int32) s1)
theorem e_X12_hears_28__1 (x1 : Int32) (_u1 : Int32) (s1 : wg_M) : q_X12_hears_28__1 x1 _u1 s1 = if x1 = 0 then (wg_ga 128 (s1 32) (0 : Int32) (q_X12_hears_28__2 s1)) else (f_X12_hears_50  wg_N 0 x1 (0 : Int32) (-1 : Int32) (0 : Int32) s1) := rfl
theorem e_X12_hears_28__2 (s1 : wg_M) (v2 : Int32) : q_X12_hears_28__2 s1 v2 = some (v2, s1) := rfl
theorem e_X12_hears_28 (x1 : Int32) (σ : wg_M) : f_X12_hears_28 0 x1 σ = wg_bd (f_X12_findsLate 0 σ) (q_X12_hears_28__1 x1) := by
  unfold f_X12_hears_28
  simp only [sm_n32, sm_r0_56]
  rfl
def q_X12_hears__2 (x1 : Int32) (v2 : Int32) (s3 : wg_M) : Option (Int32 × wg_M) := if v2 = 0 then (some ((-1 : Int32), s3)) else (f_X12_hears_28  0 x1 s3)
def q_X12_hears__1 (x1 : Int32) (s1 : wg_M) : Option (Int32 × wg_M) := if x1 = 0 then (f_X12_hears_28  0 x1 s1) else (wg_bd (f_X12_isIn 0 x1 (10 : Int32) ((9 : Int32) + (s1 0 53)) s1) (q_X12_hears__2 x1))
theorem e_X12_hears__1 (x1 : Int32) (s1 : wg_M) : q_X12_hears__1 x1 s1 = if x1 = 0 then (f_X12_hears_28  0 x1 s1) else (wg_bd (f_X12_isIn 0 x1 (10 : Int32) ((9 : Int32) + (s1 0 53)) s1) (q_X12_hears__2 x1)) := rfl
theorem e_X12_hears__2 (x1 : Int32) (v2 : Int32) (s3 : wg_M) : q_X12_hears__2 x1 v2 s3 = if v2 = 0 then (some ((-1 : Int32), s3)) else (f_X12_hears_28  0 x1 s3) := rfl
theorem e_X12_hears (x1 : Int32) (σ : wg_M) : f_X12_hears 0 x1 σ = wg_st σ 0 0 (0 : Int32) (q_X12_hears__1 x1) := rfl
def q_X12_game_49__5 (σ : wg_M) (v2 : Int32) (v5 : Int32) : Option (Int32 × wg_M) := some (v5 - v2, σ)
def q_X12_game_49__4 (n : Nat) (x1 : Int32) (x2 : Int32) (σ : wg_M) (v4 : Int32) : Option (Int32 × wg_M) := f_X12_game_49  n 0 x1 x2 v4 σ
def q_X12_game_49__3 (n : Nat) (x1 : Int32) (x2 : Int32) (x3 : Int32) (σ : wg_M) (v2 : Int32) (v3 : Int32) : Option (Int32 × wg_M) := if v3 ≤ v2 then (wg_let (x3 + (1 : Int32)) (q_X12_game_49__4 n x1 x2 σ)) else (if x1 = 0 then (some (x3, σ)) else (wg_ga 295 (σ 1) ((67 : Int32) + x3) (q_X12_game_49__5 σ v2)))
def q_X12_game_49__2 (n : Nat) (x1 : Int32) (x2 : Int32) (x3 : Int32) (σ : wg_M) (v2 : Int32) : Option (Int32 × wg_M) := wg_ga 295 (σ 1) ((67 : Int32) + x3) (q_X12_game_49__3 n x1 x2 x3 σ v2)
def q_X12_game_49__1 (n : Nat) (x1 : Int32) (x2 : Int32) (x3 : Int32) (σ : wg_M) (v1 : Int32) : Option (Int32 × wg_M) := wg_let (v1 ^^^ x2) (q_X12_game_49__2 n x1 x2 x3 σ)
theorem e_X12_game_49__1 (n : Nat) (x1 : Int32) (x2 : Int32) (x3 : Int32) (σ : wg_M) (v1 : Int32) : q_X12_game_49__1 n x1 x2 x3 σ v1 = wg_let (v1 ^^^ x2) (q_X12_game_49__2 n x1 x2 x3 σ) := rfl
theorem e_X12_game_49__2 (n : Nat) (x1 : Int32) (x2 : Int32) (x3 : Int32) (σ : wg_M) (v2 : Int32) : q_X12_game_49__2 n x1 x2 x3 σ v2 = wg_ga 295 (σ 1) ((67 : Int32) + x3) (q_X12_game_49__3 n x1 x2 x3 σ v2) := rfl
theorem e_X12_game_49__3 (n : Nat) (x1 : Int32) (x2 : Int32) (x3 : Int32) (σ : wg_M) (v2 : Int32) (v3 : Int32) : q_X12_game_49__3 n x1 x2 x3 σ v2 v3 = if v3 ≤ v2 then (wg_let (x3 + (1 : Int32)) (q_X12_game_49__4 n x1 x2 σ)) else (if x1 = 0 then (some (x3, σ)) else (wg_ga 295 (σ 1) ((67 : Int32) + x3) (q_X12_game_49__5 σ v2))) := rfl
theorem e_X12_game_49__4 (n : Nat) (x1 : Int32) (x2 : Int32) (σ : wg_M) (v4 : Int32) : q_X12_game_49__4 n x1 x2 σ v4 = f_X12_game_49  n 0 x1 x2 v4 σ := rfl
theorem e_X12_game_49__5 (σ : wg_M) (v2 : Int32) (v5 : Int32) : q_X12_game_49__5 σ v2 v5 = some (v5 - v2, σ) := rfl
theorem e_X12_game_49 (n : Nat) (x1 : Int32) (x2 : Int32) (x3 : Int32) (σ : wg_M) : f_X12_game_49 (n + 1) 0 x1 x2 x3 σ = if (σ 0 6) ≤ x3 then (some ((-1 : Int32), σ)) else (wg_ga 295 (σ 1) ((67 : Int32) + x3) (q_X12_game_49__1 n x1 x2 x3 σ)) := by
  rw [f_X12_game_49]
  simp only [sm_n1, sm_r0_1]
  rfl
def q_X12_game_21__3 (n : Nat) (x1 : Int32) (σ : wg_M) (v2 : Int32) (v3 : Int32) : Option (Int32 × wg_M) := f_X12_game_21  n 0 x1 v2 v3 σ
def q_X12_game_21__2 (n : Nat) (x1 : Int32) (x3 : Int32) (σ : wg_M) (v2 : Int32) : Option (Int32 × wg_M) := wg_let (x3 + (1 : Int32)) (q_X12_game_21__3 n x1 σ v2)
def q_X12_game_21__1 (n : Nat) (x1 : Int32) (x2 : Int32) (x3 : Int32) (σ : wg_M) (v1 : Int32) : Option (Int32 × wg_M) := wg_let (x2 ^^^ v1) (q_X12_game_21__2 n x1 x3 σ)
theorem e_X12_game_21__1 (n : Nat) (x1 : Int32) (x2 : Int32) (x3 : Int32) (σ : wg_M) (v1 : Int32) : q_X12_game_21__1 n x1 x2 x3 σ v1 = wg_let (x2 ^^^ v1) (q_X12_game_21__2 n x1 x3 σ) := rfl
theorem e_X12_game_21__2 (n : Nat) (x1 : Int32) (x3 : Int32) (σ : wg_M) (v2 : Int32) : q_X12_game_21__2 n x1 x3 σ v2 = wg_let (x3 + (1 : Int32)) (q_X12_game_21__3 n x1 σ v2) := rfl
theorem e_X12_game_21__3 (n : Nat) (x1 : Int32) (σ : wg_M) (v2 : Int32) (v3 : Int32) : q_X12_game_21__3 n x1 σ v2 v3 = f_X12_game_21  n 0 x1 v2 v3 σ := rfl
theorem e_X12_game_21 (n : Nat) (x1 : Int32) (x2 : Int32) (x3 : Int32) (σ : wg_M) : f_X12_game_21 (n + 1) 0 x1 x2 x3 σ = if (σ 0 6) ≤ x3 then (f_X12_game_49  wg_N 0 x1 x2 (0 : Int32) σ) else (wg_ga 295 (σ 1) ((67 : Int32) + x3) (q_X12_game_21__1 n x1 x2 x3 σ)) := by
  rw [f_X12_game_21]
  simp only [sm_n1, sm_r0_1]
  rfl
def q_X12_game__2 (x1 : Int32) (v2 : Int32) (s3 : wg_M) : Option (Int32 × wg_M) := if v2 = 0 then (some ((-1 : Int32), s3)) else (f_X12_game_21  wg_N 0 x1 (0 : Int32) (0 : Int32) s3)
def q_X12_game__1 (x1 : Int32) (s1 : wg_M) : Option (Int32 × wg_M) := wg_bd (f_X12_isIn 0 x1 (0 : Int32) (1 : Int32) s1) (q_X12_game__2 x1)
theorem e_X12_game__1 (x1 : Int32) (s1 : wg_M) : q_X12_game__1 x1 s1 = wg_bd (f_X12_isIn 0 x1 (0 : Int32) (1 : Int32) s1) (q_X12_game__2 x1) := rfl
theorem e_X12_game__2 (x1 : Int32) (v2 : Int32) (s3 : wg_M) : q_X12_game__2 x1 v2 s3 = if v2 = 0 then (some ((-1 : Int32), s3)) else (f_X12_game_21  wg_N 0 x1 (0 : Int32) (0 : Int32) s3) := rfl
theorem e_X12_game (x1 : Int32) (σ : wg_M) : f_X12_game 0 x1 σ = wg_st σ 0 0 (0 : Int32) (q_X12_game__1 x1) := rfl
def q_X12_keeps__3 (x1 : Int32) (s2 : wg_M) : Option (Int32 × wg_M) := some (x1, s2)
def q_X12_keeps__2 (s1 : wg_M) (v3 : Int32) : Option (Int32 × wg_M) := some (v3, s1)
def q_X12_keeps__1 (x1 : Int32) (s1 : wg_M) : Option (Int32 × wg_M) := if (s1 0 57) = 0 then (wg_ga 2300 (s1 33) ((s1 0 59) - (1 : Int32)) (q_X12_keeps__2 s1)) else (wg_sa 2300 s1 33 ((s1 0 59) - (1 : Int32)) x1 (q_X12_keeps__3 x1))
theorem e_X12_keeps__1 (x1 : Int32) (s1 : wg_M) : q_X12_keeps__1 x1 s1 = if (s1 0 57) = 0 then (wg_ga 2300 (s1 33) ((s1 0 59) - (1 : Int32)) (q_X12_keeps__2 s1)) else (wg_sa 2300 s1 33 ((s1 0 59) - (1 : Int32)) x1 (q_X12_keeps__3 x1)) := rfl
theorem e_X12_keeps__2 (s1 : wg_M) (v3 : Int32) : q_X12_keeps__2 s1 v3 = some (v3, s1) := rfl
theorem e_X12_keeps__3 (x1 : Int32) (s2 : wg_M) : q_X12_keeps__3 x1 s2 = some (x1, s2) := rfl
theorem e_X12_keeps (x1 : Int32) (σ : wg_M) : f_X12_keeps 0 x1 σ = wg_st σ 0 59 ((σ 0 59) + (1 : Int32)) (q_X12_keeps__1 x1) := by
  unfold f_X12_keeps
  simp only [sm_n33, sm_r0_60]
  rfl
def q_X12_keepsLaw_96__7 (n : Nat) (s8 : wg_M) (v9 : Int32) : Option (Int32 × wg_M) := f_X12_keepsLaw_96  n 0 v9 s8
def q_X12_keepsLaw_96__6 (n : Nat) (x1 : Int32) (s8 : wg_M) : Option (Int32 × wg_M) := wg_let (x1 + (1 : Int32)) (q_X12_keepsLaw_96__7 n s8)
def q_X12_keepsLaw_96__5 (n : Nat) (x1 : Int32) (v6 : Int32) (s7 : wg_M) : Option (Int32 × wg_M) := wg_sa 1200 s7 17 x1 v6 (q_X12_keepsLaw_96__6 n x1)
def q_X12_keepsLaw_96__4 (n : Nat) (x1 : Int32) (s4 : wg_M) (v5 : Int32) : Option (Int32 × wg_M) := wg_bd (f_X12_keeps 0 v5 s4) (q_X12_keepsLaw_96__5 n x1)
def q_X12_keepsLaw_96__3 (n : Nat) (x1 : Int32) (s4 : wg_M) : Option (Int32 × wg_M) := wg_ga 1200 (s4 17) x1 (q_X12_keepsLaw_96__4 n x1 s4)
def q_X12_keepsLaw_96__2 (n : Nat) (x1 : Int32) (v2 : Int32) (s3 : wg_M) : Option (Int32 × wg_M) := wg_sa 1200 s3 16 x1 v2 (q_X12_keepsLaw_96__3 n x1)
def q_X12_keepsLaw_96__1 (n : Nat) (x1 : Int32) (σ : wg_M) (v1 : Int32) : Option (Int32 × wg_M) := wg_bd (f_X12_keeps 0 v1 σ) (q_X12_keepsLaw_96__2 n x1)
theorem e_X12_keepsLaw_96__1 (n : Nat) (x1 : Int32) (σ : wg_M) (v1 : Int32) : q_X12_keepsLaw_96__1 n x1 σ v1 = wg_bd (f_X12_keeps 0 v1 σ) (q_X12_keepsLaw_96__2 n x1) := rfl
theorem e_X12_keepsLaw_96__2 (n : Nat) (x1 : Int32) (v2 : Int32) (s3 : wg_M) : q_X12_keepsLaw_96__2 n x1 v2 s3 = wg_sa 1200 s3 16 x1 v2 (q_X12_keepsLaw_96__3 n x1) := rfl
theorem e_X12_keepsLaw_96__3 (n : Nat) (x1 : Int32) (s4 : wg_M) : q_X12_keepsLaw_96__3 n x1 s4 = wg_ga 1200 (s4 17) x1 (q_X12_keepsLaw_96__4 n x1 s4) := rfl
theorem e_X12_keepsLaw_96__4 (n : Nat) (x1 : Int32) (s4 : wg_M) (v5 : Int32) : q_X12_keepsLaw_96__4 n x1 s4 v5 = wg_bd (f_X12_keeps 0 v5 s4) (q_X12_keepsLaw_96__5 n x1) := rfl
theorem e_X12_keepsLaw_96__5 (n : Nat) (x1 : Int32) (v6 : Int32) (s7 : wg_M) : q_X12_keepsLaw_96__5 n x1 v6 s7 = wg_sa 1200 s7 17 x1 v6 (q_X12_keepsLaw_96__6 n x1) := rfl
theorem e_X12_keepsLaw_96__6 (n : Nat) (x1 : Int32) (s8 : wg_M) : q_X12_keepsLaw_96__6 n x1 s8 = wg_let (x1 + (1 : Int32)) (q_X12_keepsLaw_96__7 n s8) := rfl
theorem e_X12_keepsLaw_96__7 (n : Nat) (s8 : wg_M) (v9 : Int32) : q_X12_keepsLaw_96__7 n s8 v9 = f_X12_keepsLaw_96  n 0 v9 s8 := rfl
theorem e_X12_keepsLaw_96 (n : Nat) (x1 : Int32) (σ : wg_M) : f_X12_keepsLaw_96 (n + 1) 0 x1 σ = if (400 : Int32) ≤ x1 then (some (0, σ)) else (wg_ga 1200 (σ 16) x1 (q_X12_keepsLaw_96__1 n x1 σ)) := by
  rw [f_X12_keepsLaw_96]
  simp only [sm_n16, sm_n17, sm_r0_26, sm_r0_27]
  rfl
def q_X12_keepsLaw_18__13 (n : Nat) (s16 : wg_M) (v17 : Int32) : Option (Int32 × wg_M) := f_X12_keepsLaw_18  n 0 v17 s16
def q_X12_keepsLaw_18__12 (n : Nat) (x1 : Int32) (s16 : wg_M) : Option (Int32 × wg_M) := wg_let (x1 + (1 : Int32)) (q_X12_keepsLaw_18__13 n s16)
def q_X12_keepsLaw_18__11 (n : Nat) (x1 : Int32) (v14 : Int32) (s15 : wg_M) : Option (Int32 × wg_M) := wg_sa 48 s15 15 x1 v14 (q_X12_keepsLaw_18__12 n x1)
def q_X12_keepsLaw_18__10 (n : Nat) (x1 : Int32) (s12 : wg_M) (v13 : Int32) : Option (Int32 × wg_M) := wg_bd (f_X12_keeps 0 v13 s12) (q_X12_keepsLaw_18__11 n x1)
def q_X12_keepsLaw_18__9 (n : Nat) (x1 : Int32) (s12 : wg_M) : Option (Int32 × wg_M) := wg_ga 48 (s12 15) x1 (q_X12_keepsLaw_18__10 n x1 s12)
def q_X12_keepsLaw_18__8 (n : Nat) (x1 : Int32) (v10 : Int32) (s11 : wg_M) : Option (Int32 × wg_M) := wg_sa 48 s11 14 x1 v10 (q_X12_keepsLaw_18__9 n x1)
def q_X12_keepsLaw_18__7 (n : Nat) (x1 : Int32) (s8 : wg_M) (v9 : Int32) : Option (Int32 × wg_M) := wg_bd (f_X12_keeps 0 v9 s8) (q_X12_keepsLaw_18__8 n x1)
def q_X12_keepsLaw_18__6 (n : Nat) (x1 : Int32) (s8 : wg_M) : Option (Int32 × wg_M) := wg_ga 48 (s8 14) x1 (q_X12_keepsLaw_18__7 n x1 s8)
def q_X12_keepsLaw_18__5 (n : Nat) (x1 : Int32) (v6 : Int32) (s7 : wg_M) : Option (Int32 × wg_M) := wg_sa 48 s7 13 x1 v6 (q_X12_keepsLaw_18__6 n x1)
def q_X12_keepsLaw_18__4 (n : Nat) (x1 : Int32) (s4 : wg_M) (v5 : Int32) : Option (Int32 × wg_M) := wg_bd (f_X12_keeps 0 v5 s4) (q_X12_keepsLaw_18__5 n x1)
def q_X12_keepsLaw_18__3 (n : Nat) (x1 : Int32) (s4 : wg_M) : Option (Int32 × wg_M) := wg_ga 48 (s4 13) x1 (q_X12_keepsLaw_18__4 n x1 s4)
def q_X12_keepsLaw_18__2 (n : Nat) (x1 : Int32) (v2 : Int32) (s3 : wg_M) : Option (Int32 × wg_M) := wg_sa 48 s3 12 x1 v2 (q_X12_keepsLaw_18__3 n x1)
def q_X12_keepsLaw_18__1 (n : Nat) (x1 : Int32) (σ : wg_M) (v1 : Int32) : Option (Int32 × wg_M) := wg_bd (f_X12_keeps 0 v1 σ) (q_X12_keepsLaw_18__2 n x1)
theorem e_X12_keepsLaw_18__1 (n : Nat) (x1 : Int32) (σ : wg_M) (v1 : Int32) : q_X12_keepsLaw_18__1 n x1 σ v1 = wg_bd (f_X12_keeps 0 v1 σ) (q_X12_keepsLaw_18__2 n x1) := rfl
theorem e_X12_keepsLaw_18__2 (n : Nat) (x1 : Int32) (v2 : Int32) (s3 : wg_M) : q_X12_keepsLaw_18__2 n x1 v2 s3 = wg_sa 48 s3 12 x1 v2 (q_X12_keepsLaw_18__3 n x1) := rfl
theorem e_X12_keepsLaw_18__3 (n : Nat) (x1 : Int32) (s4 : wg_M) : q_X12_keepsLaw_18__3 n x1 s4 = wg_ga 48 (s4 13) x1 (q_X12_keepsLaw_18__4 n x1 s4) := rfl
theorem e_X12_keepsLaw_18__4 (n : Nat) (x1 : Int32) (s4 : wg_M) (v5 : Int32) : q_X12_keepsLaw_18__4 n x1 s4 v5 = wg_bd (f_X12_keeps 0 v5 s4) (q_X12_keepsLaw_18__5 n x1) := rfl
theorem e_X12_keepsLaw_18__5 (n : Nat) (x1 : Int32) (v6 : Int32) (s7 : wg_M) : q_X12_keepsLaw_18__5 n x1 v6 s7 = wg_sa 48 s7 13 x1 v6 (q_X12_keepsLaw_18__6 n x1) := rfl
theorem e_X12_keepsLaw_18__6 (n : Nat) (x1 : Int32) (s8 : wg_M) : q_X12_keepsLaw_18__6 n x1 s8 = wg_ga 48 (s8 14) x1 (q_X12_keepsLaw_18__7 n x1 s8) := rfl
theorem e_X12_keepsLaw_18__7 (n : Nat) (x1 : Int32) (s8 : wg_M) (v9 : Int32) : q_X12_keepsLaw_18__7 n x1 s8 v9 = wg_bd (f_X12_keeps 0 v9 s8) (q_X12_keepsLaw_18__8 n x1) := rfl
theorem e_X12_keepsLaw_18__8 (n : Nat) (x1 : Int32) (v10 : Int32) (s11 : wg_M) : q_X12_keepsLaw_18__8 n x1 v10 s11 = wg_sa 48 s11 14 x1 v10 (q_X12_keepsLaw_18__9 n x1) := rfl
theorem e_X12_keepsLaw_18__9 (n : Nat) (x1 : Int32) (s12 : wg_M) : q_X12_keepsLaw_18__9 n x1 s12 = wg_ga 48 (s12 15) x1 (q_X12_keepsLaw_18__10 n x1 s12) := rfl
theorem e_X12_keepsLaw_18__10 (n : Nat) (x1 : Int32) (s12 : wg_M) (v13 : Int32) : q_X12_keepsLaw_18__10 n x1 s12 v13 = wg_bd (f_X12_keeps 0 v13 s12) (q_X12_keepsLaw_18__11 n x1) := rfl
theorem e_X12_keepsLaw_18__11 (n : Nat) (x1 : Int32) (v14 : Int32) (s15 : wg_M) : q_X12_keepsLaw_18__11 n x1 v14 s15 = wg_sa 48 s15 15 x1 v14 (q_X12_keepsLaw_18__12 n x1) := rfl
theorem e_X12_keepsLaw_18__12 (n : Nat) (x1 : Int32) (s16 : wg_M) : q_X12_keepsLaw_18__12 n x1 s16 = wg_let (x1 + (1 : Int32)) (q_X12_keepsLaw_18__13 n s16) := rfl
theorem e_X12_keepsLaw_18__13 (n : Nat) (s16 : wg_M) (v17 : Int32) : q_X12_keepsLaw_18__13 n s16 v17 = f_X12_keepsLaw_18  n 0 v17 s16 := rfl
theorem e_X12_keepsLaw_18 (n : Nat) (x1 : Int32) (σ : wg_M) : f_X12_keepsLaw_18 (n + 1) 0 x1 σ = if (16 : Int32) ≤ x1 then (f_X12_keepsLaw_96  wg_N 0 (0 : Int32) σ) else (wg_ga 48 (σ 12) x1 (q_X12_keepsLaw_18__1 n x1 σ)) := by
  rw [f_X12_keepsLaw_18]
  simp only [sm_n12, sm_n13, sm_n14, sm_n15, sm_r0_22, sm_r0_23, sm_r0_24, sm_r0_25]
  rfl
def q_X12_keepsLaw__3 (s4 : wg_M) : Option (Int32 × wg_M) := f_X12_keepsLaw_18  wg_N 0 (0 : Int32) s4
def q_X12_keepsLaw__2 (v2 : Int32) (s3 : wg_M) : Option (Int32 × wg_M) := wg_sa 2 s3 11 (0 : Int32) v2 q_X12_keepsLaw__3
def q_X12_keepsLaw__1 (σ : wg_M) (v1 : Int32) : Option (Int32 × wg_M) := wg_bd (f_X12_keeps 0 v1 σ) q_X12_keepsLaw__2
theorem e_X12_keepsLaw__1 (σ : wg_M) (v1 : Int32) : q_X12_keepsLaw__1 σ v1 = wg_bd (f_X12_keeps 0 v1 σ) q_X12_keepsLaw__2 := rfl
theorem e_X12_keepsLaw__2 (v2 : Int32) (s3 : wg_M) : q_X12_keepsLaw__2 v2 s3 = wg_sa 2 s3 11 (0 : Int32) v2 q_X12_keepsLaw__3 := rfl
theorem e_X12_keepsLaw__3 (s4 : wg_M) : q_X12_keepsLaw__3 s4 = f_X12_keepsLaw_18  wg_N 0 (0 : Int32) s4 := rfl
theorem e_X12_keepsLaw (σ : wg_M) : f_X12_keepsLaw 0 σ = wg_ga 2 (σ 11) (0 : Int32) (q_X12_keepsLaw__1 σ) := by
  unfold f_X12_keepsLaw
  simp only [sm_n11, sm_r0_21]
  rfl
def q_X12_keepsMany__18 (s27 : wg_M) : Option (Int32 × wg_M) := some (0, s27)
def q_X12_keepsMany__17 (v25 : Int32) (s26 : wg_M) : Option (Int32 × wg_M) := wg_st s26 0 53 v25 q_X12_keepsMany__18
def q_X12_keepsMany__16 (s24 : wg_M) : Option (Int32 × wg_M) := wg_bd (f_X12_keeps 0 (s24 0 53) s24) q_X12_keepsMany__17
def q_X12_keepsMany__15 (v22 : Int32) (s23 : wg_M) : Option (Int32 × wg_M) := wg_st s23 0 49 v22 q_X12_keepsMany__16
def q_X12_keepsMany__14 (s21 : wg_M) : Option (Int32 × wg_M) := wg_bd (f_X12_keeps 0 (s21 0 49) s21) q_X12_keepsMany__15
def q_X12_keepsMany__13 (v19 : Int32) (s20 : wg_M) : Option (Int32 × wg_M) := wg_st s20 0 45 v19 q_X12_keepsMany__14
def q_X12_keepsMany__12 (s18 : wg_M) : Option (Int32 × wg_M) := wg_bd (f_X12_keeps 0 (s18 0 45) s18) q_X12_keepsMany__13
def q_X12_keepsMany__11 (v16 : Int32) (s17 : wg_M) : Option (Int32 × wg_M) := wg_st s17 0 41 v16 q_X12_keepsMany__12
def q_X12_keepsMany__10 (s15 : wg_M) : Option (Int32 × wg_M) := wg_bd (f_X12_keeps 0 (s15 0 41) s15) q_X12_keepsMany__11
def q_X12_keepsMany__9 (v13 : Int32) (s14 : wg_M) : Option (Int32 × wg_M) := wg_st s14 0 39 v13 q_X12_keepsMany__10
def q_X12_keepsMany__8 (s12 : wg_M) : Option (Int32 × wg_M) := wg_bd (f_X12_keeps 0 (s12 0 39) s12) q_X12_keepsMany__9
def q_X12_keepsMany__7 (v10 : Int32) (s11 : wg_M) : Option (Int32 × wg_M) := wg_st s11 0 37 v10 q_X12_keepsMany__8
def q_X12_keepsMany__6 (s9 : wg_M) : Option (Int32 × wg_M) := wg_bd (f_X12_keeps 0 (s9 0 37) s9) q_X12_keepsMany__7
def q_X12_keepsMany__5 (v7 : Int32) (s8 : wg_M) : Option (Int32 × wg_M) := wg_st s8 0 8 v7 q_X12_keepsMany__6
def q_X12_keepsMany__4 (s6 : wg_M) : Option (Int32 × wg_M) := wg_bd (f_X12_keeps 0 (s6 0 8) s6) q_X12_keepsMany__5
def q_X12_keepsMany__3 (v4 : Int32) (s5 : wg_M) : Option (Int32 × wg_M) := wg_st s5 0 7 v4 q_X12_keepsMany__4
def q_X12_keepsMany__2 (s3 : wg_M) : Option (Int32 × wg_M) := wg_bd (f_X12_keeps 0 (s3 0 7) s3) q_X12_keepsMany__3
def q_X12_keepsMany__1 (v1 : Int32) (s2 : wg_M) : Option (Int32 × wg_M) := wg_st s2 0 6 v1 q_X12_keepsMany__2
theorem e_X12_keepsMany__1 (v1 : Int32) (s2 : wg_M) : q_X12_keepsMany__1 v1 s2 = wg_st s2 0 6 v1 q_X12_keepsMany__2 := rfl
theorem e_X12_keepsMany__2 (s3 : wg_M) : q_X12_keepsMany__2 s3 = wg_bd (f_X12_keeps 0 (s3 0 7) s3) q_X12_keepsMany__3 := rfl
theorem e_X12_keepsMany__3 (v4 : Int32) (s5 : wg_M) : q_X12_keepsMany__3 v4 s5 = wg_st s5 0 7 v4 q_X12_keepsMany__4 := rfl
theorem e_X12_keepsMany__4 (s6 : wg_M) : q_X12_keepsMany__4 s6 = wg_bd (f_X12_keeps 0 (s6 0 8) s6) q_X12_keepsMany__5 := rfl
theorem e_X12_keepsMany__5 (v7 : Int32) (s8 : wg_M) : q_X12_keepsMany__5 v7 s8 = wg_st s8 0 8 v7 q_X12_keepsMany__6 := rfl
theorem e_X12_keepsMany__6 (s9 : wg_M) : q_X12_keepsMany__6 s9 = wg_bd (f_X12_keeps 0 (s9 0 37) s9) q_X12_keepsMany__7 := rfl
theorem e_X12_keepsMany__7 (v10 : Int32) (s11 : wg_M) : q_X12_keepsMany__7 v10 s11 = wg_st s11 0 37 v10 q_X12_keepsMany__8 := rfl
theorem e_X12_keepsMany__8 (s12 : wg_M) : q_X12_keepsMany__8 s12 = wg_bd (f_X12_keeps 0 (s12 0 39) s12) q_X12_keepsMany__9 := rfl
theorem e_X12_keepsMany__9 (v13 : Int32) (s14 : wg_M) : q_X12_keepsMany__9 v13 s14 = wg_st s14 0 39 v13 q_X12_keepsMany__10 := rfl
theorem e_X12_keepsMany__10 (s15 : wg_M) : q_X12_keepsMany__10 s15 = wg_bd (f_X12_keeps 0 (s15 0 41) s15) q_X12_keepsMany__11 := rfl
theorem e_X12_keepsMany__11 (v16 : Int32) (s17 : wg_M) : q_X12_keepsMany__11 v16 s17 = wg_st s17 0 41 v16 q_X12_keepsMany__12 := rfl
theorem e_X12_keepsMany__12 (s18 : wg_M) : q_X12_keepsMany__12 s18 = wg_bd (f_X12_keeps 0 (s18 0 45) s18) q_X12_keepsMany__13 := rfl
theorem e_X12_keepsMany__13 (v19 : Int32) (s20 : wg_M) : q_X12_keepsMany__13 v19 s20 = wg_st s20 0 45 v19 q_X12_keepsMany__14 := rfl
theorem e_X12_keepsMany__14 (s21 : wg_M) : q_X12_keepsMany__14 s21 = wg_bd (f_X12_keeps 0 (s21 0 49) s21) q_X12_keepsMany__15 := rfl
theorem e_X12_keepsMany__15 (v22 : Int32) (s23 : wg_M) : q_X12_keepsMany__15 v22 s23 = wg_st s23 0 49 v22 q_X12_keepsMany__16 := rfl
theorem e_X12_keepsMany__16 (s24 : wg_M) : q_X12_keepsMany__16 s24 = wg_bd (f_X12_keeps 0 (s24 0 53) s24) q_X12_keepsMany__17 := rfl
theorem e_X12_keepsMany__17 (v25 : Int32) (s26 : wg_M) : q_X12_keepsMany__17 v25 s26 = wg_st s26 0 53 v25 q_X12_keepsMany__18 := rfl
theorem e_X12_keepsMany__18 (s27 : wg_M) : q_X12_keepsMany__18 s27 = some (0, s27) := rfl
theorem e_X12_keepsMany (σ : wg_M) : f_X12_keepsMany 0 σ = wg_bd (f_X12_keeps 0 (σ 0 6) σ) q_X12_keepsMany__1 := rfl
def q_X12_keepsTold_294__4 (n : Nat) (s4 : wg_M) (v5 : Int32) : Option (Int32 × wg_M) := f_X12_keepsTold_294  n 0 v5 s4
def q_X12_keepsTold_294__3 (n : Nat) (x1 : Int32) (s4 : wg_M) : Option (Int32 × wg_M) := wg_let (x1 + (1 : Int32)) (q_X12_keepsTold_294__4 n s4)
def q_X12_keepsTold_294__2 (n : Nat) (x1 : Int32) (v2 : Int32) (s3 : wg_M) : Option (Int32 × wg_M) := wg_sa 128 s3 20 x1 v2 (q_X12_keepsTold_294__3 n x1)
def q_X12_keepsTold_294__1 (n : Nat) (x1 : Int32) (σ : wg_M) (v1 : Int32) : Option (Int32 × wg_M) := wg_bd (f_X12_keeps 0 v1 σ) (q_X12_keepsTold_294__2 n x1)
theorem e_X12_keepsTold_294__1 (n : Nat) (x1 : Int32) (σ : wg_M) (v1 : Int32) : q_X12_keepsTold_294__1 n x1 σ v1 = wg_bd (f_X12_keeps 0 v1 σ) (q_X12_keepsTold_294__2 n x1) := rfl
theorem e_X12_keepsTold_294__2 (n : Nat) (x1 : Int32) (v2 : Int32) (s3 : wg_M) : q_X12_keepsTold_294__2 n x1 v2 s3 = wg_sa 128 s3 20 x1 v2 (q_X12_keepsTold_294__3 n x1) := rfl
theorem e_X12_keepsTold_294__3 (n : Nat) (x1 : Int32) (s4 : wg_M) : q_X12_keepsTold_294__3 n x1 s4 = wg_let (x1 + (1 : Int32)) (q_X12_keepsTold_294__4 n s4) := rfl
theorem e_X12_keepsTold_294__4 (n : Nat) (s4 : wg_M) (v5 : Int32) : q_X12_keepsTold_294__4 n s4 v5 = f_X12_keepsTold_294  n 0 v5 s4 := rfl
theorem e_X12_keepsTold_294 (n : Nat) (x1 : Int32) (σ : wg_M) : f_X12_keepsTold_294 (n + 1) 0 x1 σ = if (64 : Int32) ≤ x1 then (some (0, σ)) else (wg_ga 128 (σ 20) x1 (q_X12_keepsTold_294__1 n x1 σ)) := by
  rw [f_X12_keepsTold_294]
  simp only [sm_n20, sm_r0_40]
  rfl
def q_X12_keepsTold_264__4 (n : Nat) (s4 : wg_M) (v5 : Int32) : Option (Int32 × wg_M) := f_X12_keepsTold_264  n 0 v5 s4
def q_X12_keepsTold_264__3 (n : Nat) (x1 : Int32) (s4 : wg_M) : Option (Int32 × wg_M) := wg_let (x1 + (1 : Int32)) (q_X12_keepsTold_264__4 n s4)
def q_X12_keepsTold_264__2 (n : Nat) (x1 : Int32) (v2 : Int32) (s3 : wg_M) : Option (Int32 × wg_M) := wg_sa 96 s3 19 x1 v2 (q_X12_keepsTold_264__3 n x1)
def q_X12_keepsTold_264__1 (n : Nat) (x1 : Int32) (σ : wg_M) (v1 : Int32) : Option (Int32 × wg_M) := wg_bd (f_X12_keeps 0 v1 σ) (q_X12_keepsTold_264__2 n x1)
theorem e_X12_keepsTold_264__1 (n : Nat) (x1 : Int32) (σ : wg_M) (v1 : Int32) : q_X12_keepsTold_264__1 n x1 σ v1 = wg_bd (f_X12_keeps 0 v1 σ) (q_X12_keepsTold_264__2 n x1) := rfl
theorem e_X12_keepsTold_264__2 (n : Nat) (x1 : Int32) (v2 : Int32) (s3 : wg_M) : q_X12_keepsTold_264__2 n x1 v2 s3 = wg_sa 96 s3 19 x1 v2 (q_X12_keepsTold_264__3 n x1) := rfl
theorem e_X12_keepsTold_264__3 (n : Nat) (x1 : Int32) (s4 : wg_M) : q_X12_keepsTold_264__3 n x1 s4 = wg_let (x1 + (1 : Int32)) (q_X12_keepsTold_264__4 n s4) := rfl
theorem e_X12_keepsTold_264__4 (n : Nat) (s4 : wg_M) (v5 : Int32) : q_X12_keepsTold_264__4 n s4 v5 = f_X12_keepsTold_264  n 0 v5 s4 := rfl
theorem e_X12_keepsTold_264 (n : Nat) (x1 : Int32) (σ : wg_M) : f_X12_keepsTold_264 (n + 1) 0 x1 σ = if (48 : Int32) ≤ x1 then (f_X12_keepsTold_294  wg_N 0 (0 : Int32) σ) else (wg_ga 96 (σ 19) x1 (q_X12_keepsTold_264__1 n x1 σ)) := by
  rw [f_X12_keepsTold_264]
  simp only [sm_n19, sm_r0_38]
  rfl
def q_X12_keepsTold_218__7 (n : Nat) (s8 : wg_M) (v9 : Int32) : Option (Int32 × wg_M) := f_X12_keepsTold_218  n 0 v9 s8
def q_X12_keepsTold_218__6 (n : Nat) (x1 : Int32) (s8 : wg_M) : Option (Int32 × wg_M) := wg_let (x1 + (1 : Int32)) (q_X12_keepsTold_218__7 n s8)
def q_X12_keepsTold_218__5 (n : Nat) (x1 : Int32) (v6 : Int32) (s7 : wg_M) : Option (Int32 × wg_M) := wg_sa 7 s7 31 x1 v6 (q_X12_keepsTold_218__6 n x1)
def q_X12_keepsTold_218__4 (n : Nat) (x1 : Int32) (s4 : wg_M) (v5 : Int32) : Option (Int32 × wg_M) := wg_bd (f_X12_keeps 0 v5 s4) (q_X12_keepsTold_218__5 n x1)
def q_X12_keepsTold_218__3 (n : Nat) (x1 : Int32) (s4 : wg_M) : Option (Int32 × wg_M) := wg_ga 7 (s4 31) x1 (q_X12_keepsTold_218__4 n x1 s4)
def q_X12_keepsTold_218__2 (n : Nat) (x1 : Int32) (v2 : Int32) (s3 : wg_M) : Option (Int32 × wg_M) := wg_sa 7 s3 30 x1 v2 (q_X12_keepsTold_218__3 n x1)
def q_X12_keepsTold_218__1 (n : Nat) (x1 : Int32) (σ : wg_M) (v1 : Int32) : Option (Int32 × wg_M) := wg_bd (f_X12_keeps 0 v1 σ) (q_X12_keepsTold_218__2 n x1)
theorem e_X12_keepsTold_218__1 (n : Nat) (x1 : Int32) (σ : wg_M) (v1 : Int32) : q_X12_keepsTold_218__1 n x1 σ v1 = wg_bd (f_X12_keeps 0 v1 σ) (q_X12_keepsTold_218__2 n x1) := rfl
theorem e_X12_keepsTold_218__2 (n : Nat) (x1 : Int32) (v2 : Int32) (s3 : wg_M) : q_X12_keepsTold_218__2 n x1 v2 s3 = wg_sa 7 s3 30 x1 v2 (q_X12_keepsTold_218__3 n x1) := rfl
theorem e_X12_keepsTold_218__3 (n : Nat) (x1 : Int32) (s4 : wg_M) : q_X12_keepsTold_218__3 n x1 s4 = wg_ga 7 (s4 31) x1 (q_X12_keepsTold_218__4 n x1 s4) := rfl
theorem e_X12_keepsTold_218__4 (n : Nat) (x1 : Int32) (s4 : wg_M) (v5 : Int32) : q_X12_keepsTold_218__4 n x1 s4 v5 = wg_bd (f_X12_keeps 0 v5 s4) (q_X12_keepsTold_218__5 n x1) := rfl
theorem e_X12_keepsTold_218__5 (n : Nat) (x1 : Int32) (v6 : Int32) (s7 : wg_M) : q_X12_keepsTold_218__5 n x1 v6 s7 = wg_sa 7 s7 31 x1 v6 (q_X12_keepsTold_218__6 n x1) := rfl
theorem e_X12_keepsTold_218__6 (n : Nat) (x1 : Int32) (s8 : wg_M) : q_X12_keepsTold_218__6 n x1 s8 = wg_let (x1 + (1 : Int32)) (q_X12_keepsTold_218__7 n s8) := rfl
theorem e_X12_keepsTold_218__7 (n : Nat) (s8 : wg_M) (v9 : Int32) : q_X12_keepsTold_218__7 n s8 v9 = f_X12_keepsTold_218  n 0 v9 s8 := rfl
theorem e_X12_keepsTold_218 (n : Nat) (x1 : Int32) (σ : wg_M) : f_X12_keepsTold_218 (n + 1) 0 x1 σ = if (7 : Int32) ≤ x1 then (f_X12_keepsTold_264  wg_N 0 (0 : Int32) σ) else (wg_ga 7 (σ 30) x1 (q_X12_keepsTold_218__1 n x1 σ)) := by
  rw [f_X12_keepsTold_218]
  simp only [sm_n30, sm_n31, sm_r0_54, sm_r0_55]
  rfl
def q_X12_keepsTold_188__4 (n : Nat) (s4 : wg_M) (v5 : Int32) : Option (Int32 × wg_M) := f_X12_keepsTold_188  n 0 v5 s4
def q_X12_keepsTold_188__3 (n : Nat) (x1 : Int32) (s4 : wg_M) : Option (Int32 × wg_M) := wg_let (x1 + (1 : Int32)) (q_X12_keepsTold_188__4 n s4)
def q_X12_keepsTold_188__2 (n : Nat) (x1 : Int32) (v2 : Int32) (s3 : wg_M) : Option (Int32 × wg_M) := wg_sa 20 s3 29 x1 v2 (q_X12_keepsTold_188__3 n x1)
def q_X12_keepsTold_188__1 (n : Nat) (x1 : Int32) (σ : wg_M) (v1 : Int32) : Option (Int32 × wg_M) := wg_bd (f_X12_keeps 0 v1 σ) (q_X12_keepsTold_188__2 n x1)
theorem e_X12_keepsTold_188__1 (n : Nat) (x1 : Int32) (σ : wg_M) (v1 : Int32) : q_X12_keepsTold_188__1 n x1 σ v1 = wg_bd (f_X12_keeps 0 v1 σ) (q_X12_keepsTold_188__2 n x1) := rfl
theorem e_X12_keepsTold_188__2 (n : Nat) (x1 : Int32) (v2 : Int32) (s3 : wg_M) : q_X12_keepsTold_188__2 n x1 v2 s3 = wg_sa 20 s3 29 x1 v2 (q_X12_keepsTold_188__3 n x1) := rfl
theorem e_X12_keepsTold_188__3 (n : Nat) (x1 : Int32) (s4 : wg_M) : q_X12_keepsTold_188__3 n x1 s4 = wg_let (x1 + (1 : Int32)) (q_X12_keepsTold_188__4 n s4) := rfl
theorem e_X12_keepsTold_188__4 (n : Nat) (s4 : wg_M) (v5 : Int32) : q_X12_keepsTold_188__4 n s4 v5 = f_X12_keepsTold_188  n 0 v5 s4 := rfl
theorem e_X12_keepsTold_188 (n : Nat) (x1 : Int32) (σ : wg_M) : f_X12_keepsTold_188 (n + 1) 0 x1 σ = if (20 : Int32) ≤ x1 then (f_X12_keepsTold_218  wg_N 0 (0 : Int32) σ) else (wg_ga 20 (σ 29) x1 (q_X12_keepsTold_188__1 n x1 σ)) := by
  rw [f_X12_keepsTold_188]
  simp only [sm_n29, sm_r0_52]
  rfl
def q_X12_keepsTold_126__10 (n : Nat) (s12 : wg_M) (v13 : Int32) : Option (Int32 × wg_M) := f_X12_keepsTold_126  n 0 v13 s12
def q_X12_keepsTold_126__9 (n : Nat) (x1 : Int32) (s12 : wg_M) : Option (Int32 × wg_M) := wg_let (x1 + (1 : Int32)) (q_X12_keepsTold_126__10 n s12)
def q_X12_keepsTold_126__8 (n : Nat) (x1 : Int32) (v10 : Int32) (s11 : wg_M) : Option (Int32 × wg_M) := wg_sa 14 s11 27 x1 v10 (q_X12_keepsTold_126__9 n x1)
def q_X12_keepsTold_126__7 (n : Nat) (x1 : Int32) (s8 : wg_M) (v9 : Int32) : Option (Int32 × wg_M) := wg_bd (f_X12_keeps 0 v9 s8) (q_X12_keepsTold_126__8 n x1)
def q_X12_keepsTold_126__6 (n : Nat) (x1 : Int32) (s8 : wg_M) : Option (Int32 × wg_M) := wg_ga 14 (s8 27) x1 (q_X12_keepsTold_126__7 n x1 s8)
def q_X12_keepsTold_126__5 (n : Nat) (x1 : Int32) (v6 : Int32) (s7 : wg_M) : Option (Int32 × wg_M) := wg_sa 14 s7 7 x1 v6 (q_X12_keepsTold_126__6 n x1)
def q_X12_keepsTold_126__4 (n : Nat) (x1 : Int32) (s4 : wg_M) (v5 : Int32) : Option (Int32 × wg_M) := wg_bd (f_X12_keeps 0 v5 s4) (q_X12_keepsTold_126__5 n x1)
def q_X12_keepsTold_126__3 (n : Nat) (x1 : Int32) (s4 : wg_M) : Option (Int32 × wg_M) := wg_ga 14 (s4 7) x1 (q_X12_keepsTold_126__4 n x1 s4)
def q_X12_keepsTold_126__2 (n : Nat) (x1 : Int32) (v2 : Int32) (s3 : wg_M) : Option (Int32 × wg_M) := wg_sa 14 s3 6 x1 v2 (q_X12_keepsTold_126__3 n x1)
def q_X12_keepsTold_126__1 (n : Nat) (x1 : Int32) (σ : wg_M) (v1 : Int32) : Option (Int32 × wg_M) := wg_bd (f_X12_keeps 0 v1 σ) (q_X12_keepsTold_126__2 n x1)
theorem e_X12_keepsTold_126__1 (n : Nat) (x1 : Int32) (σ : wg_M) (v1 : Int32) : q_X12_keepsTold_126__1 n x1 σ v1 = wg_bd (f_X12_keeps 0 v1 σ) (q_X12_keepsTold_126__2 n x1) := rfl
theorem e_X12_keepsTold_126__2 (n : Nat) (x1 : Int32) (v2 : Int32) (s3 : wg_M) : q_X12_keepsTold_126__2 n x1 v2 s3 = wg_sa 14 s3 6 x1 v2 (q_X12_keepsTold_126__3 n x1) := rfl
theorem e_X12_keepsTold_126__3 (n : Nat) (x1 : Int32) (s4 : wg_M) : q_X12_keepsTold_126__3 n x1 s4 = wg_ga 14 (s4 7) x1 (q_X12_keepsTold_126__4 n x1 s4) := rfl
theorem e_X12_keepsTold_126__4 (n : Nat) (x1 : Int32) (s4 : wg_M) (v5 : Int32) : q_X12_keepsTold_126__4 n x1 s4 v5 = wg_bd (f_X12_keeps 0 v5 s4) (q_X12_keepsTold_126__5 n x1) := rfl
theorem e_X12_keepsTold_126__5 (n : Nat) (x1 : Int32) (v6 : Int32) (s7 : wg_M) : q_X12_keepsTold_126__5 n x1 v6 s7 = wg_sa 14 s7 7 x1 v6 (q_X12_keepsTold_126__6 n x1) := rfl
theorem e_X12_keepsTold_126__6 (n : Nat) (x1 : Int32) (s8 : wg_M) : q_X12_keepsTold_126__6 n x1 s8 = wg_ga 14 (s8 27) x1 (q_X12_keepsTold_126__7 n x1 s8) := rfl
theorem e_X12_keepsTold_126__7 (n : Nat) (x1 : Int32) (s8 : wg_M) (v9 : Int32) : q_X12_keepsTold_126__7 n x1 s8 v9 = wg_bd (f_X12_keeps 0 v9 s8) (q_X12_keepsTold_126__8 n x1) := rfl
theorem e_X12_keepsTold_126__8 (n : Nat) (x1 : Int32) (v10 : Int32) (s11 : wg_M) : q_X12_keepsTold_126__8 n x1 v10 s11 = wg_sa 14 s11 27 x1 v10 (q_X12_keepsTold_126__9 n x1) := rfl
theorem e_X12_keepsTold_126__9 (n : Nat) (x1 : Int32) (s12 : wg_M) : q_X12_keepsTold_126__9 n x1 s12 = wg_let (x1 + (1 : Int32)) (q_X12_keepsTold_126__10 n s12) := rfl
theorem e_X12_keepsTold_126__10 (n : Nat) (s12 : wg_M) (v13 : Int32) : q_X12_keepsTold_126__10 n s12 v13 = f_X12_keepsTold_126  n 0 v13 s12 := rfl
theorem e_X12_keepsTold_126 (n : Nat) (x1 : Int32) (σ : wg_M) : f_X12_keepsTold_126 (n + 1) 0 x1 σ = if (14 : Int32) ≤ x1 then (f_X12_keepsTold_188  wg_N 0 (0 : Int32) σ) else (wg_ga 14 (σ 6) x1 (q_X12_keepsTold_126__1 n x1 σ)) := by
  rw [f_X12_keepsTold_126]
  simp only [sm_n6, sm_n7, sm_n27, sm_r0_11, sm_r0_12, sm_r0_50]
  rfl
def q_X12_keepsTold_96__4 (n : Nat) (s4 : wg_M) (v5 : Int32) : Option (Int32 × wg_M) := f_X12_keepsTold_96  n 0 v5 s4
def q_X12_keepsTold_96__3 (n : Nat) (x1 : Int32) (s4 : wg_M) : Option (Int32 × wg_M) := wg_let (x1 + (1 : Int32)) (q_X12_keepsTold_96__4 n s4)
def q_X12_keepsTold_96__2 (n : Nat) (x1 : Int32) (v2 : Int32) (s3 : wg_M) : Option (Int32 × wg_M) := wg_sa 10 s3 5 x1 v2 (q_X12_keepsTold_96__3 n x1)
def q_X12_keepsTold_96__1 (n : Nat) (x1 : Int32) (σ : wg_M) (v1 : Int32) : Option (Int32 × wg_M) := wg_bd (f_X12_keeps 0 v1 σ) (q_X12_keepsTold_96__2 n x1)
theorem e_X12_keepsTold_96__1 (n : Nat) (x1 : Int32) (σ : wg_M) (v1 : Int32) : q_X12_keepsTold_96__1 n x1 σ v1 = wg_bd (f_X12_keeps 0 v1 σ) (q_X12_keepsTold_96__2 n x1) := rfl
theorem e_X12_keepsTold_96__2 (n : Nat) (x1 : Int32) (v2 : Int32) (s3 : wg_M) : q_X12_keepsTold_96__2 n x1 v2 s3 = wg_sa 10 s3 5 x1 v2 (q_X12_keepsTold_96__3 n x1) := rfl
theorem e_X12_keepsTold_96__3 (n : Nat) (x1 : Int32) (s4 : wg_M) : q_X12_keepsTold_96__3 n x1 s4 = wg_let (x1 + (1 : Int32)) (q_X12_keepsTold_96__4 n s4) := rfl
theorem e_X12_keepsTold_96__4 (n : Nat) (s4 : wg_M) (v5 : Int32) : q_X12_keepsTold_96__4 n s4 v5 = f_X12_keepsTold_96  n 0 v5 s4 := rfl
theorem e_X12_keepsTold_96 (n : Nat) (x1 : Int32) (σ : wg_M) : f_X12_keepsTold_96 (n + 1) 0 x1 σ = if (10 : Int32) ≤ x1 then (f_X12_keepsTold_126  wg_N 0 (0 : Int32) σ) else (wg_ga 10 (σ 5) x1 (q_X12_keepsTold_96__1 n x1 σ)) := by
  rw [f_X12_keepsTold_96]
  simp only [sm_n5, sm_r0_10]
  rfl
def q_X12_keepsTold_2__16 (n : Nat) (s20 : wg_M) (v21 : Int32) : Option (Int32 × wg_M) := f_X12_keepsTold_2  n 0 v21 s20
def q_X12_keepsTold_2__15 (n : Nat) (x1 : Int32) (s20 : wg_M) : Option (Int32 × wg_M) := wg_let (x1 + (1 : Int32)) (q_X12_keepsTold_2__16 n s20)
def q_X12_keepsTold_2__14 (n : Nat) (x1 : Int32) (v18 : Int32) (s19 : wg_M) : Option (Int32 × wg_M) := wg_sa 8 s19 26 x1 v18 (q_X12_keepsTold_2__15 n x1)
def q_X12_keepsTold_2__13 (n : Nat) (x1 : Int32) (s16 : wg_M) (v17 : Int32) : Option (Int32 × wg_M) := wg_bd (f_X12_keeps 0 v17 s16) (q_X12_keepsTold_2__14 n x1)
def q_X12_keepsTold_2__12 (n : Nat) (x1 : Int32) (s16 : wg_M) : Option (Int32 × wg_M) := wg_ga 8 (s16 26) x1 (q_X12_keepsTold_2__13 n x1 s16)
def q_X12_keepsTold_2__11 (n : Nat) (x1 : Int32) (v14 : Int32) (s15 : wg_M) : Option (Int32 × wg_M) := wg_sa 8 s15 25 x1 v14 (q_X12_keepsTold_2__12 n x1)
def q_X12_keepsTold_2__10 (n : Nat) (x1 : Int32) (s12 : wg_M) (v13 : Int32) : Option (Int32 × wg_M) := wg_bd (f_X12_keeps 0 v13 s12) (q_X12_keepsTold_2__11 n x1)
def q_X12_keepsTold_2__9 (n : Nat) (x1 : Int32) (s12 : wg_M) : Option (Int32 × wg_M) := wg_ga 8 (s12 25) x1 (q_X12_keepsTold_2__10 n x1 s12)
def q_X12_keepsTold_2__8 (n : Nat) (x1 : Int32) (v10 : Int32) (s11 : wg_M) : Option (Int32 × wg_M) := wg_sa 8 s11 24 x1 v10 (q_X12_keepsTold_2__9 n x1)
def q_X12_keepsTold_2__7 (n : Nat) (x1 : Int32) (s8 : wg_M) (v9 : Int32) : Option (Int32 × wg_M) := wg_bd (f_X12_keeps 0 v9 s8) (q_X12_keepsTold_2__8 n x1)
def q_X12_keepsTold_2__6 (n : Nat) (x1 : Int32) (s8 : wg_M) : Option (Int32 × wg_M) := wg_ga 8 (s8 24) x1 (q_X12_keepsTold_2__7 n x1 s8)
def q_X12_keepsTold_2__5 (n : Nat) (x1 : Int32) (v6 : Int32) (s7 : wg_M) : Option (Int32 × wg_M) := wg_sa 16 s7 21 x1 v6 (q_X12_keepsTold_2__6 n x1)
def q_X12_keepsTold_2__4 (n : Nat) (x1 : Int32) (s4 : wg_M) (v5 : Int32) : Option (Int32 × wg_M) := wg_bd (f_X12_keeps 0 v5 s4) (q_X12_keepsTold_2__5 n x1)
def q_X12_keepsTold_2__3 (n : Nat) (x1 : Int32) (s4 : wg_M) : Option (Int32 × wg_M) := wg_ga 16 (s4 21) x1 (q_X12_keepsTold_2__4 n x1 s4)
def q_X12_keepsTold_2__2 (n : Nat) (x1 : Int32) (v2 : Int32) (s3 : wg_M) : Option (Int32 × wg_M) := wg_sa 8 s3 4 x1 v2 (q_X12_keepsTold_2__3 n x1)
def q_X12_keepsTold_2__1 (n : Nat) (x1 : Int32) (σ : wg_M) (v1 : Int32) : Option (Int32 × wg_M) := wg_bd (f_X12_keeps 0 v1 σ) (q_X12_keepsTold_2__2 n x1)
theorem e_X12_keepsTold_2__1 (n : Nat) (x1 : Int32) (σ : wg_M) (v1 : Int32) : q_X12_keepsTold_2__1 n x1 σ v1 = wg_bd (f_X12_keeps 0 v1 σ) (q_X12_keepsTold_2__2 n x1) := rfl
theorem e_X12_keepsTold_2__2 (n : Nat) (x1 : Int32) (v2 : Int32) (s3 : wg_M) : q_X12_keepsTold_2__2 n x1 v2 s3 = wg_sa 8 s3 4 x1 v2 (q_X12_keepsTold_2__3 n x1) := rfl
theorem e_X12_keepsTold_2__3 (n : Nat) (x1 : Int32) (s4 : wg_M) : q_X12_keepsTold_2__3 n x1 s4 = wg_ga 16 (s4 21) x1 (q_X12_keepsTold_2__4 n x1 s4) := rfl
theorem e_X12_keepsTold_2__4 (n : Nat) (x1 : Int32) (s4 : wg_M) (v5 : Int32) : q_X12_keepsTold_2__4 n x1 s4 v5 = wg_bd (f_X12_keeps 0 v5 s4) (q_X12_keepsTold_2__5 n x1) := rfl
theorem e_X12_keepsTold_2__5 (n : Nat) (x1 : Int32) (v6 : Int32) (s7 : wg_M) : q_X12_keepsTold_2__5 n x1 v6 s7 = wg_sa 16 s7 21 x1 v6 (q_X12_keepsTold_2__6 n x1) := rfl
theorem e_X12_keepsTold_2__6 (n : Nat) (x1 : Int32) (s8 : wg_M) : q_X12_keepsTold_2__6 n x1 s8 = wg_ga 8 (s8 24) x1 (q_X12_keepsTold_2__7 n x1 s8) := rfl
theorem e_X12_keepsTold_2__7 (n : Nat) (x1 : Int32) (s8 : wg_M) (v9 : Int32) : q_X12_keepsTold_2__7 n x1 s8 v9 = wg_bd (f_X12_keeps 0 v9 s8) (q_X12_keepsTold_2__8 n x1) := rfl
theorem e_X12_keepsTold_2__8 (n : Nat) (x1 : Int32) (v10 : Int32) (s11 : wg_M) : q_X12_keepsTold_2__8 n x1 v10 s11 = wg_sa 8 s11 24 x1 v10 (q_X12_keepsTold_2__9 n x1) := rfl
theorem e_X12_keepsTold_2__9 (n : Nat) (x1 : Int32) (s12 : wg_M) : q_X12_keepsTold_2__9 n x1 s12 = wg_ga 8 (s12 25) x1 (q_X12_keepsTold_2__10 n x1 s12) := rfl
theorem e_X12_keepsTold_2__10 (n : Nat) (x1 : Int32) (s12 : wg_M) (v13 : Int32) : q_X12_keepsTold_2__10 n x1 s12 v13 = wg_bd (f_X12_keeps 0 v13 s12) (q_X12_keepsTold_2__11 n x1) := rfl
theorem e_X12_keepsTold_2__11 (n : Nat) (x1 : Int32) (v14 : Int32) (s15 : wg_M) : q_X12_keepsTold_2__11 n x1 v14 s15 = wg_sa 8 s15 25 x1 v14 (q_X12_keepsTold_2__12 n x1) := rfl
theorem e_X12_keepsTold_2__12 (n : Nat) (x1 : Int32) (s16 : wg_M) : q_X12_keepsTold_2__12 n x1 s16 = wg_ga 8 (s16 26) x1 (q_X12_keepsTold_2__13 n x1 s16) := rfl
theorem e_X12_keepsTold_2__13 (n : Nat) (x1 : Int32) (s16 : wg_M) (v17 : Int32) : q_X12_keepsTold_2__13 n x1 s16 v17 = wg_bd (f_X12_keeps 0 v17 s16) (q_X12_keepsTold_2__14 n x1) := rfl
theorem e_X12_keepsTold_2__14 (n : Nat) (x1 : Int32) (v18 : Int32) (s19 : wg_M) : q_X12_keepsTold_2__14 n x1 v18 s19 = wg_sa 8 s19 26 x1 v18 (q_X12_keepsTold_2__15 n x1) := rfl
theorem e_X12_keepsTold_2__15 (n : Nat) (x1 : Int32) (s20 : wg_M) : q_X12_keepsTold_2__15 n x1 s20 = wg_let (x1 + (1 : Int32)) (q_X12_keepsTold_2__16 n s20) := rfl
theorem e_X12_keepsTold_2__16 (n : Nat) (s20 : wg_M) (v21 : Int32) : q_X12_keepsTold_2__16 n s20 v21 = f_X12_keepsTold_2  n 0 v21 s20 := rfl
theorem e_X12_keepsTold_2 (n : Nat) (x1 : Int32) (σ : wg_M) : f_X12_keepsTold_2 (n + 1) 0 x1 σ = if (8 : Int32) ≤ x1 then (f_X12_keepsTold_96  wg_N 0 (0 : Int32) σ) else (wg_ga 8 (σ 4) x1 (q_X12_keepsTold_2__1 n x1 σ)) := by
  rw [f_X12_keepsTold_2]
  simp only [sm_n4, sm_n21, sm_n24, sm_n25, sm_n26, sm_r0_9, sm_r0_42, sm_r0_46, sm_r0_47, sm_r0_48]
  rfl
theorem e_X12_keepsTold (σ : wg_M) : f_X12_keepsTold 0 σ = f_X12_keepsTold_2  wg_N 0 (0 : Int32) σ := rfl
def q_X12_image_74__6 (n : Nat) (x1 : Int32) (s6 : wg_M) (v7 : Int32) : Option (Int32 × wg_M) := f_X12_image_74  n 0 x1 v7 s6
def q_X12_image_74__5 (n : Nat) (x1 : Int32) (x2 : Int32) (s6 : wg_M) : Option (Int32 × wg_M) := wg_let (x2 + (1 : Int32)) (q_X12_image_74__6 n x1 s6)
def q_X12_image_74__4 (n : Nat) (x1 : Int32) (x2 : Int32) (v4 : Int32) (s5 : wg_M) : Option (Int32 × wg_M) := wg_sa 600 s5 8 x2 v4 (q_X12_image_74__5 n x1 x2)
def q_X12_image_74__3 (n : Nat) (x1 : Int32) (x2 : Int32) (σ : wg_M) (v3 : Int32) : Option (Int32 × wg_M) := wg_bd (f_X12_keeps 0 v3 σ) (q_X12_image_74__4 n x1 x2)
def q_X12_image_74__2 (s2 : wg_M) : Option (Int32 × wg_M) := some ((1 : Int32), s2)
def q_X12_image_74__1 (x1 : Int32) (_u1 : Int32) (s1 : wg_M) : Option (Int32 × wg_M) := if x1 = 0 then (wg_st s1 0 3 (0 : Int32) q_X12_image_74__2) else (some ((1 : Int32), s1))
theorem e_X12_image_74__1 (x1 : Int32) (_u1 : Int32) (s1 : wg_M) : q_X12_image_74__1 x1 _u1 s1 = if x1 = 0 then (wg_st s1 0 3 (0 : Int32) q_X12_image_74__2) else (some ((1 : Int32), s1)) := rfl
theorem e_X12_image_74__2 (s2 : wg_M) : q_X12_image_74__2 s2 = some ((1 : Int32), s2) := rfl
theorem e_X12_image_74__3 (n : Nat) (x1 : Int32) (x2 : Int32) (σ : wg_M) (v3 : Int32) : q_X12_image_74__3 n x1 x2 σ v3 = wg_bd (f_X12_keeps 0 v3 σ) (q_X12_image_74__4 n x1 x2) := rfl
theorem e_X12_image_74__4 (n : Nat) (x1 : Int32) (x2 : Int32) (v4 : Int32) (s5 : wg_M) : q_X12_image_74__4 n x1 x2 v4 s5 = wg_sa 600 s5 8 x2 v4 (q_X12_image_74__5 n x1 x2) := rfl
theorem e_X12_image_74__5 (n : Nat) (x1 : Int32) (x2 : Int32) (s6 : wg_M) : q_X12_image_74__5 n x1 x2 s6 = wg_let (x2 + (1 : Int32)) (q_X12_image_74__6 n x1 s6) := rfl
theorem e_X12_image_74__6 (n : Nat) (x1 : Int32) (s6 : wg_M) (v7 : Int32) : q_X12_image_74__6 n x1 s6 v7 = f_X12_image_74  n 0 x1 v7 s6 := rfl
theorem e_X12_image_74 (n : Nat) (x1 : Int32) (x2 : Int32) (σ : wg_M) : f_X12_image_74 (n + 1) 0 x1 x2 σ = if (600 : Int32) ≤ x2 then (wg_bd (f_X12_keepsLaw 0 σ) (q_X12_image_74__1 x1)) else (wg_ga 600 (σ 8) x2 (q_X12_image_74__3 n x1 x2 σ)) := by
  rw [f_X12_image_74]
  simp only [sm_n8, sm_r0_13]
  rfl
def q_X12_image_35__6 (n : Nat) (x1 : Int32) (s6 : wg_M) (v7 : Int32) : Option (Int32 × wg_M) := f_X12_image_35  n 0 x1 v7 s6
def q_X12_image_35__5 (n : Nat) (x1 : Int32) (x2 : Int32) (s6 : wg_M) : Option (Int32 × wg_M) := wg_let (x2 + (1 : Int32)) (q_X12_image_35__6 n x1 s6)
def q_X12_image_35__4 (n : Nat) (x1 : Int32) (x2 : Int32) (v4 : Int32) (s5 : wg_M) : Option (Int32 × wg_M) := wg_sa 295 s5 1 x2 v4 (q_X12_image_35__5 n x1 x2)
def q_X12_image_35__3 (n : Nat) (x1 : Int32) (x2 : Int32) (σ : wg_M) (v3 : Int32) : Option (Int32 × wg_M) := wg_bd (f_X12_keeps 0 v3 σ) (q_X12_image_35__4 n x1 x2)
def q_X12_image_35__2 (x1 : Int32) (_u2 : Int32) (s2 : wg_M) : Option (Int32 × wg_M) := f_X12_image_74  wg_N 0 x1 (0 : Int32) s2
def q_X12_image_35__1 (x1 : Int32) (_u1 : Int32) (s1 : wg_M) : Option (Int32 × wg_M) := wg_bd (f_X12_keepsTold 0 s1) (q_X12_image_35__2 x1)
theorem e_X12_image_35__1 (x1 : Int32) (_u1 : Int32) (s1 : wg_M) : q_X12_image_35__1 x1 _u1 s1 = wg_bd (f_X12_keepsTold 0 s1) (q_X12_image_35__2 x1) := rfl
theorem e_X12_image_35__2 (x1 : Int32) (_u2 : Int32) (s2 : wg_M) : q_X12_image_35__2 x1 _u2 s2 = f_X12_image_74  wg_N 0 x1 (0 : Int32) s2 := rfl
theorem e_X12_image_35__3 (n : Nat) (x1 : Int32) (x2 : Int32) (σ : wg_M) (v3 : Int32) : q_X12_image_35__3 n x1 x2 σ v3 = wg_bd (f_X12_keeps 0 v3 σ) (q_X12_image_35__4 n x1 x2) := rfl
theorem e_X12_image_35__4 (n : Nat) (x1 : Int32) (x2 : Int32) (v4 : Int32) (s5 : wg_M) : q_X12_image_35__4 n x1 x2 v4 s5 = wg_sa 295 s5 1 x2 v4 (q_X12_image_35__5 n x1 x2) := rfl
theorem e_X12_image_35__5 (n : Nat) (x1 : Int32) (x2 : Int32) (s6 : wg_M) : q_X12_image_35__5 n x1 x2 s6 = wg_let (x2 + (1 : Int32)) (q_X12_image_35__6 n x1 s6) := rfl
theorem e_X12_image_35__6 (n : Nat) (x1 : Int32) (s6 : wg_M) (v7 : Int32) : q_X12_image_35__6 n x1 s6 v7 = f_X12_image_35  n 0 x1 v7 s6 := rfl
theorem e_X12_image_35 (n : Nat) (x1 : Int32) (x2 : Int32) (σ : wg_M) : f_X12_image_35 (n + 1) 0 x1 x2 σ = if (295 : Int32) ≤ x2 then (wg_bd (f_X12_keepsMany 0 σ) (q_X12_image_35__1 x1)) else (wg_ga 295 (σ 1) x2 (q_X12_image_35__3 n x1 x2 σ)) := by
  rw [f_X12_image_35]
  simp only [sm_n1, sm_r0_1]
  rfl
def q_X12_image_18__3 (x1 : Int32) (s3 : wg_M) : Option (Int32 × wg_M) := f_X12_image_35  wg_N 0 x1 (0 : Int32) s3
def q_X12_image_18__2 (x1 : Int32) (s2 : wg_M) : Option (Int32 × wg_M) := wg_st s2 0 59 (0 : Int32) (q_X12_image_18__3 x1)
def q_X12_image_18__1 (x1 : Int32) (s1 : wg_M) : Option (Int32 × wg_M) := wg_bz (1 : Int32) (wg_st s1 0 58 (1 : Int32) (q_X12_image_18__2 x1))
theorem e_X12_image_18__1 (x1 : Int32) (s1 : wg_M) : q_X12_image_18__1 x1 s1 = wg_bz (1 : Int32) (wg_st s1 0 58 (1 : Int32) (q_X12_image_18__2 x1)) := rfl
theorem e_X12_image_18__2 (x1 : Int32) (s2 : wg_M) : q_X12_image_18__2 x1 s2 = wg_st s2 0 59 (0 : Int32) (q_X12_image_18__3 x1) := rfl
theorem e_X12_image_18__3 (x1 : Int32) (s3 : wg_M) : q_X12_image_18__3 x1 s3 = f_X12_image_35  wg_N 0 x1 (0 : Int32) s3 := rfl
theorem e_X12_image_18 (x1 : Int32) (σ : wg_M) : f_X12_image_18 0 x1 σ = wg_bz x1 (wg_st σ 0 57 x1 (q_X12_image_18__1 x1)) := rfl
def q_X12_image__1 (x1 : Int32) (s1 : wg_M) : Option (Int32 × wg_M) := if x1 = 0 then (if (s1 0 58) = 0 then (some ((0 : Int32), s1)) else (f_X12_image_18  0 x1 s1)) else (f_X12_image_18  0 x1 s1)
theorem e_X12_image__1 (x1 : Int32) (s1 : wg_M) : q_X12_image__1 x1 s1 = if x1 = 0 then (if (s1 0 58) = 0 then (some ((0 : Int32), s1)) else (f_X12_image_18  0 x1 s1)) else (f_X12_image_18  0 x1 s1) := rfl
theorem e_X12_image (x1 : Int32) (σ : wg_M) : f_X12_image 0 x1 σ = wg_st σ 0 0 (0 : Int32) (q_X12_image__1 x1) := rfl
def q_X12_openSet_31__1 (k4 : Nat → Int32 → Int32 → wg_M → Option (Int32 × wg_M)) (x1 : Int32) (σ : wg_M) (v1 : Int32) : Option (Int32 × wg_M) := k4 0 x1 v1 σ
theorem e_X12_openSet_31__1 (k4 : Nat → Int32 → Int32 → wg_M → Option (Int32 × wg_M)) (x1 : Int32) (σ : wg_M) (v1 : Int32) : q_X12_openSet_31__1 k4 x1 σ v1 = k4 0 x1 v1 σ := rfl
theorem e_X12_openSet_31 (k4 : Nat → Int32 → Int32 → wg_M → Option (Int32 × wg_M)) (x1 : Int32) (x2 : Int32) (σ : wg_M) : f_X12_openSet_31 k4 0 x1 x2 σ = wg_let (x2 + (1 : Int32)) (q_X12_openSet_31__1 k4 x1 σ) := rfl
def q_X12_openSet_4__2 (n : Nat) (x2 : Int32) (σ : wg_M) (v2 : Int32) : Option (Int32 × wg_M) := f_X12_openSet_31 (f_X12_openSet_4  n) 0 v2 x2 σ
def q_X12_openSet_4__1 (n : Nat) (x1 : Int32) (x2 : Int32) (σ : wg_M) (v1 : Int32) : Option (Int32 × wg_M) := if v1 = 0 then (wg_let (x1 ||| ((1 : Int32) <<< (x2 &&& 31))) (q_X12_openSet_4__2 n x2 σ)) else (f_X12_openSet_31 (f_X12_openSet_4  n) 0 x1 x2 σ)
theorem e_X12_openSet_4__1 (n : Nat) (x1 : Int32) (x2 : Int32) (σ : wg_M) (v1 : Int32) : q_X12_openSet_4__1 n x1 x2 σ v1 = if v1 = 0 then (wg_let (x1 ||| ((1 : Int32) <<< (x2 &&& 31))) (q_X12_openSet_4__2 n x2 σ)) else (f_X12_openSet_31 (f_X12_openSet_4  n) 0 x1 x2 σ) := rfl
theorem e_X12_openSet_4__2 (n : Nat) (x2 : Int32) (σ : wg_M) (v2 : Int32) : q_X12_openSet_4__2 n x2 σ v2 = f_X12_openSet_31 (f_X12_openSet_4  n) 0 v2 x2 σ := rfl
theorem e_X12_openSet_4 (n : Nat) (x1 : Int32) (x2 : Int32) (σ : wg_M) : f_X12_openSet_4 (n + 1) 0 x1 x2 σ = if (σ 0 8) ≤ x2 then (some (x1, σ)) else (wg_ga 295 (σ 1) ((267 : Int32) + x2) (q_X12_openSet_4__1 n x1 x2 σ)) := by
  rw [f_X12_openSet_4]
  simp only [sm_n1, sm_r0_1]
  rfl
theorem e_X12_openSet (σ : wg_M) : f_X12_openSet 0 σ = f_X12_openSet_4  wg_N 0 (0 : Int32) (0 : Int32) σ := rfl
def q_X12_look__7 (s1 : wg_M) (v2 : Int32) : Option (Int32 × wg_M) := some (v2, s1)
def q_X12_look__6 (s1 : wg_M) (v3 : Int32) : Option (Int32 × wg_M) := some (v3, s1)
def q_X12_look__5 (s1 : wg_M) (v4 : Int32) : Option (Int32 × wg_M) := some (v4, s1)
def q_X12_look__4 (v5 : Int32) (s6 : wg_M) : Option (Int32 × wg_M) := some (v5, s6)
def q_X12_look__3 (v7 : Int32) (s8 : wg_M) : Option (Int32 × wg_M) := some (v7, s8)
def q_X12_look__2 (s1 : wg_M) (v9 : Int32) : Option (Int32 × wg_M) := some (v9, s1)
def q_X12_look__1 (x1 : Int32) (s1 : wg_M) : Option (Int32 × wg_M) := if x1 = 0 then (some (s1 0 6, s1)) else (if x1 = (1 : Int32) then (some (s1 0 7, s1)) else (if x1 = (2 : Int32) then (some (s1 0 8, s1)) else (if x1 = (3 : Int32) then (wg_ga 295 (s1 1) (0 : Int32) (q_X12_look__2 s1)) else (if x1 = (4 : Int32) then (wg_bd (f_X12_deadSet 0 s1) q_X12_look__3) else (if x1 = (5 : Int32) then (wg_bd (f_X12_openSet 0 s1) q_X12_look__4) else (if x1 = (6 : Int32) then (wg_ga 295 (s1 1) (2 : Int32) (q_X12_look__5 s1)) else (if x1 = (7 : Int32) then (wg_ga 295 (s1 1) (1 : Int32) (q_X12_look__6 s1)) else (if x1 = (8 : Int32) then (wg_ga 2 (s1 11) (0 : Int32) (q_X12_look__7 s1)) else (if x1 = (9 : Int32) then (some (s1 0 37, s1)) else (if x1 = (10 : Int32) then (some (s1 0 39, s1)) else (if x1 = (11 : Int32) then (some (s1 0 41, s1)) else (if x1 = (12 : Int32) then (some (s1 0 3, s1)) else (some ((-1 : Int32), s1))))))))))))))
theorem e_X12_look__1 (x1 : Int32) (s1 : wg_M) : q_X12_look__1 x1 s1 = if x1 = 0 then (some (s1 0 6, s1)) else (if x1 = (1 : Int32) then (some (s1 0 7, s1)) else (if x1 = (2 : Int32) then (some (s1 0 8, s1)) else (if x1 = (3 : Int32) then (wg_ga 295 (s1 1) (0 : Int32) (q_X12_look__2 s1)) else (if x1 = (4 : Int32) then (wg_bd (f_X12_deadSet 0 s1) q_X12_look__3) else (if x1 = (5 : Int32) then (wg_bd (f_X12_openSet 0 s1) q_X12_look__4) else (if x1 = (6 : Int32) then (wg_ga 295 (s1 1) (2 : Int32) (q_X12_look__5 s1)) else (if x1 = (7 : Int32) then (wg_ga 295 (s1 1) (1 : Int32) (q_X12_look__6 s1)) else (if x1 = (8 : Int32) then (wg_ga 2 (s1 11) (0 : Int32) (q_X12_look__7 s1)) else (if x1 = (9 : Int32) then (some (s1 0 37, s1)) else (if x1 = (10 : Int32) then (some (s1 0 39, s1)) else (if x1 = (11 : Int32) then (some (s1 0 41, s1)) else (if x1 = (12 : Int32) then (some (s1 0 3, s1)) else (some ((-1 : Int32), s1)))))))))))))) := rfl
theorem e_X12_look__2 (s1 : wg_M) (v9 : Int32) : q_X12_look__2 s1 v9 = some (v9, s1) := rfl
theorem e_X12_look__3 (v7 : Int32) (s8 : wg_M) : q_X12_look__3 v7 s8 = some (v7, s8) := rfl
theorem e_X12_look__4 (v5 : Int32) (s6 : wg_M) : q_X12_look__4 v5 s6 = some (v5, s6) := rfl
theorem e_X12_look__5 (s1 : wg_M) (v4 : Int32) : q_X12_look__5 s1 v4 = some (v4, s1) := rfl
theorem e_X12_look__6 (s1 : wg_M) (v3 : Int32) : q_X12_look__6 s1 v3 = some (v3, s1) := rfl
theorem e_X12_look__7 (s1 : wg_M) (v2 : Int32) : q_X12_look__7 s1 v2 = some (v2, s1) := rfl
theorem e_X12_look (x1 : Int32) (σ : wg_M) : f_X12_look 0 x1 σ = wg_st σ 0 0 (0 : Int32) (q_X12_look__1 x1) := by
  unfold f_X12_look
  simp only [sm_n1, sm_n11, sm_r0_1, sm_r0_21]
  rfl
def q_X6_isSpelt_3__3 (n : Nat) (x1 : Int32) (x2 : Int32) (x3 : Int32) (s3 : wg_M) (v4 : Int32) : Option (Int32 × wg_M) := f_X6_isSpelt_3  n 260 x1 x2 x3 v4 s3
def q_X6_isSpelt_3__2 (n : Nat) (x1 : Int32) (x2 : Int32) (x3 : Int32) (x4 : Int32) (v1 : Int32) (v2 : Int32) (s3 : wg_M) : Option (Int32 × wg_M) := if v1 = v2 then (wg_let (x4 + (1 : Int32)) (q_X6_isSpelt_3__3 n x1 x2 x3 s3)) else (some ((0 : Int32), s3))
def q_X6_isSpelt_3__1 (n : Nat) (x1 : Int32) (x2 : Int32) (x3 : Int32) (x4 : Int32) (σ : wg_M) (v1 : Int32) : Option (Int32 × wg_M) := wg_bd (f_J0_charAt_5068e ((x3 + x4) - x1) σ) (q_X6_isSpelt_3__2 n x1 x2 x3 x4 v1)
theorem e_X6_isSpelt_3__1 (n : Nat) (x1 : Int32) (x2 : Int32) (x3 : Int32) (x4 : Int32) (σ : wg_M) (v1 : Int32) : q_X6_isSpelt_3__1 n x1 x2 x3 x4 σ v1 = wg_bd (f_J0_charAt_5068e ((x3 + x4) - x1) σ) (q_X6_isSpelt_3__2 n x1 x2 x3 x4 v1) := rfl
theorem e_X6_isSpelt_3__2 (n : Nat) (x1 : Int32) (x2 : Int32) (x3 : Int32) (x4 : Int32) (v1 : Int32) (v2 : Int32) (s3 : wg_M) : q_X6_isSpelt_3__2 n x1 x2 x3 x4 v1 v2 s3 = if v1 = v2 then (wg_let (x4 + (1 : Int32)) (q_X6_isSpelt_3__3 n x1 x2 x3 s3)) else (some ((0 : Int32), s3)) := rfl
theorem e_X6_isSpelt_3__3 (n : Nat) (x1 : Int32) (x2 : Int32) (x3 : Int32) (s3 : wg_M) (v4 : Int32) : q_X6_isSpelt_3__3 n x1 x2 x3 s3 v4 = f_X6_isSpelt_3  n 260 x1 x2 x3 v4 s3 := rfl
theorem e_X6_isSpelt_3 (n : Nat) (x1 : Int32) (x2 : Int32) (x3 : Int32) (x4 : Int32) (σ : wg_M) : f_X6_isSpelt_3 (n + 1) 260 x1 x2 x3 x4 σ = if x2 ≤ x4 then (some ((1 : Int32), σ)) else (wg_ga 400 (σ 261) x4 (q_X6_isSpelt_3__1 n x1 x2 x3 x4 σ)) := by
  rw [f_X6_isSpelt_3]
  simp only [sc_n261, sc_r260_1]
  rfl
theorem e_X6_isSpelt (x1 : Int32) (x2 : Int32) (x3 : Int32) (σ : wg_M) : f_X6_isSpelt 260 x1 x2 x3 σ = f_X6_isSpelt_3  wg_N 260 x1 x2 x3 x1 σ := rfl
def q_X6_wordAt_65__1 (k10 : Nat → Int32 → Int32 → Int32 → Int32 → Int32 → wg_M → Option (Int32 × wg_M)) (x1 : Int32) (x2 : Int32) (x3 : Int32) (x4 : Int32) (σ : wg_M) (v1 : Int32) : Option (Int32 × wg_M) := k10 260 x1 x2 x3 x4 v1 σ
theorem e_X6_wordAt_65__1 (k10 : Nat → Int32 → Int32 → Int32 → Int32 → Int32 → wg_M → Option (Int32 × wg_M)) (x1 : Int32) (x2 : Int32) (x3 : Int32) (x4 : Int32) (σ : wg_M) (v1 : Int32) : q_X6_wordAt_65__1 k10 x1 x2 x3 x4 σ v1 = k10 260 x1 x2 x3 x4 v1 σ := rfl
theorem e_X6_wordAt_65 (k10 : Nat → Int32 → Int32 → Int32 → Int32 → Int32 → wg_M → Option (Int32 × wg_M)) (x1 : Int32) (x2 : Int32) (x3 : Int32) (x4 : Int32) (x5 : Int32) (σ : wg_M) : f_X6_wordAt_65 k10 260 x1 x2 x3 x4 x5 σ = wg_let (x5 + (1 : Int32)) (q_X6_wordAt_65__1 k10 x1 x2 x3 x4 σ) := rfl
def q_X6_wordAt_56__2 (k10 : Nat → Int32 → Int32 → Int32 → Int32 → Int32 → wg_M → Option (Int32 × wg_M)) (x1 : Int32) (x2 : Int32) (x5 : Int32) (σ : wg_M) (v1 : Int32) (v2 : Int32) : Option (Int32 × wg_M) := f_X6_wordAt_65 k10 260 x1 x2 v1 v2 x5 σ
def q_X6_wordAt_56__1 (k10 : Nat → Int32 → Int32 → Int32 → Int32 → Int32 → wg_M → Option (Int32 × wg_M)) (x1 : Int32) (x2 : Int32) (x5 : Int32) (σ : wg_M) (v1 : Int32) : Option (Int32 × wg_M) := wg_let (x5 + (1 : Int32)) (q_X6_wordAt_56__2 k10 x1 x2 x5 σ v1)
theorem e_X6_wordAt_56__1 (k10 : Nat → Int32 → Int32 → Int32 → Int32 → Int32 → wg_M → Option (Int32 × wg_M)) (x1 : Int32) (x2 : Int32) (x5 : Int32) (σ : wg_M) (v1 : Int32) : q_X6_wordAt_56__1 k10 x1 x2 x5 σ v1 = wg_let (x5 + (1 : Int32)) (q_X6_wordAt_56__2 k10 x1 x2 x5 σ v1) := rfl
theorem e_X6_wordAt_56__2 (k10 : Nat → Int32 → Int32 → Int32 → Int32 → Int32 → wg_M → Option (Int32 × wg_M)) (x1 : Int32) (x2 : Int32) (x5 : Int32) (σ : wg_M) (v1 : Int32) (v2 : Int32) : q_X6_wordAt_56__2 k10 x1 x2 x5 σ v1 v2 = f_X6_wordAt_65 k10 260 x1 x2 v1 v2 x5 σ := rfl
theorem e_X6_wordAt_56 (k10 : Nat → Int32 → Int32 → Int32 → Int32 → Int32 → wg_M → Option (Int32 × wg_M)) (x1 : Int32) (x2 : Int32) (x3 : Int32) (x5 : Int32) (σ : wg_M) : f_X6_wordAt_56 k10 260 x1 x2 x3 x5 σ = wg_let (x3 + (1 : Int32)) (q_X6_wordAt_56__1 k10 x1 x2 x5 σ) := rfl
def q_X6_wordAt_10__3 (n : Nat) (x1 : Int32) (x2 : Int32) (x3 : Int32) (x5 : Int32) (v5 : Int32) (s6 : wg_M) : Option (Int32 × wg_M) := if v5 = 0 then (f_X6_wordAt_56 (f_X6_wordAt_10  n) 260 x1 x2 x3 x5 s6) else (some (x3, s6))
def q_X6_wordAt_10__2 (n : Nat) (x1 : Int32) (x2 : Int32) (x3 : Int32) (x4 : Int32) (x5 : Int32) (v3 : Int32) (s4 : wg_M) : Option (Int32 × wg_M) := if v3 = (32 : Int32) then (if (x5 - x4) = (x2 - x1) then (wg_bd (f_X6_isSpelt 260 x1 x2 x4 s4) (q_X6_wordAt_10__3 n x1 x2 x3 x5)) else (f_X6_wordAt_56 (f_X6_wordAt_10  n) 260 x1 x2 x3 x5 s4)) else (f_X6_wordAt_65 (f_X6_wordAt_10  n) 260 x1 x2 x3 x4 x5 s4)
def q_X6_wordAt_10__1 (n : Nat) (x1 : Int32) (x2 : Int32) (x3 : Int32) (x4 : Int32) (x5 : Int32) (v1 : Int32) (s2 : wg_M) : Option (Int32 × wg_M) := if v1 ≤ x5 then (some ((0 : Int32), s2)) else (wg_bd (f_J0_charAt_5068e x5 s2) (q_X6_wordAt_10__2 n x1 x2 x3 x4 x5))
theorem e_X6_wordAt_10__1 (n : Nat) (x1 : Int32) (x2 : Int32) (x3 : Int32) (x4 : Int32) (x5 : Int32) (v1 : Int32) (s2 : wg_M) : q_X6_wordAt_10__1 n x1 x2 x3 x4 x5 v1 s2 = if v1 ≤ x5 then (some ((0 : Int32), s2)) else (wg_bd (f_J0_charAt_5068e x5 s2) (q_X6_wordAt_10__2 n x1 x2 x3 x4 x5)) := rfl
theorem e_X6_wordAt_10__2 (n : Nat) (x1 : Int32) (x2 : Int32) (x3 : Int32) (x4 : Int32) (x5 : Int32) (v3 : Int32) (s4 : wg_M) : q_X6_wordAt_10__2 n x1 x2 x3 x4 x5 v3 s4 = if v3 = (32 : Int32) then (if (x5 - x4) = (x2 - x1) then (wg_bd (f_X6_isSpelt 260 x1 x2 x4 s4) (q_X6_wordAt_10__3 n x1 x2 x3 x5)) else (f_X6_wordAt_56 (f_X6_wordAt_10  n) 260 x1 x2 x3 x5 s4)) else (f_X6_wordAt_65 (f_X6_wordAt_10  n) 260 x1 x2 x3 x4 x5 s4) := rfl
theorem e_X6_wordAt_10__3 (n : Nat) (x1 : Int32) (x2 : Int32) (x3 : Int32) (x5 : Int32) (v5 : Int32) (s6 : wg_M) : q_X6_wordAt_10__3 n x1 x2 x3 x5 v5 s6 = if v5 = 0 then (f_X6_wordAt_56 (f_X6_wordAt_10  n) 260 x1 x2 x3 x5 s6) else (some (x3, s6)) := rfl
theorem e_X6_wordAt_10 (n : Nat) (x1 : Int32) (x2 : Int32) (x3 : Int32) (x4 : Int32) (x5 : Int32) (σ : wg_M) : f_X6_wordAt_10 (n + 1) 260 x1 x2 x3 x4 x5 σ = wg_bd (f_J0_length_8abf5  σ) (q_X6_wordAt_10__1 n x1 x2 x3 x4 x5) := by
  rw [f_X6_wordAt_10]
  rfl
theorem e_X6_wordAt (x1 : Int32) (x2 : Int32) (σ : wg_M) : f_X6_wordAt 260 x1 x2 σ = f_X6_wordAt_10  wg_N 260 x1 x2 (256 : Int32) (0 : Int32) (0 : Int32) σ := rfl
theorem e_X6_begin_201 (k22 : Nat → Int32 → wg_M → Option (Int32 × wg_M)) (x1 : Int32) (σ : wg_M) : f_X6_begin_201 k22 260 x1 σ = k22 260 x1 σ := rfl
def q_X6_begin_138__2 (k22 : Nat → Int32 → wg_M → Option (Int32 × wg_M)) (x1 : Int32) (_u2 : Int32) (s3 : wg_M) : Option (Int32 × wg_M) := f_X6_begin_201 k22 260 x1 s3
def q_X6_begin_138__1 (k22 : Nat → Int32 → wg_M → Option (Int32 × wg_M)) (x1 : Int32) (x2 : Int32) (t0 : Int32) (t1 : Nat) (v1 : Int32) (s2 : wg_M) : Option (Int32 × wg_M) := wg_bd (f_X6_addToken t1 t0 v1 x2 s2) (q_X6_begin_138__2 k22 x1)
theorem e_X6_begin_138__1 (k22 : Nat → Int32 → wg_M → Option (Int32 × wg_M)) (x1 : Int32) (x2 : Int32) (t0 : Int32) (t1 : Nat) (v1 : Int32) (s2 : wg_M) : q_X6_begin_138__1 k22 x1 x2 t0 t1 v1 s2 = wg_bd (f_X6_addToken t1 t0 v1 x2 s2) (q_X6_begin_138__2 k22 x1) := rfl
theorem e_X6_begin_138__2 (k22 : Nat → Int32 → wg_M → Option (Int32 × wg_M)) (x1 : Int32) (_u2 : Int32) (s3 : wg_M) : q_X6_begin_138__2 k22 x1 _u2 s3 = f_X6_begin_201 k22 260 x1 s3 := rfl
theorem e_X6_begin_138 (k22 : Nat → Int32 → wg_M → Option (Int32 × wg_M)) (x1 : Int32) (x2 : Int32) (t0 : Int32) (t1 : Nat) (σ : wg_M) : f_X6_begin_138 k22 260 x1 x2 t0 t1 σ = wg_bd (f_X6_numberAt 260 x2 x1 σ) (q_X6_begin_138__1 k22 x1 x2 t0 t1) := rfl
theorem e_X6_begin_125 (k22 : Nat → Int32 → wg_M → Option (Int32 × wg_M)) (x1 : Int32) (x2 : Int32) (σ : wg_M) : f_X6_begin_125 k22 260 x1 x2 σ = if (4 : Int32) < (x1 - x2) then (f_X6_begin_138 k22 260 x1 x2 (0 : Int32) 260 σ) else (f_X6_begin_138 k22 260 x1 x2 (2 : Int32) 260 σ) := rfl
def q_X6_begin_99__3 (k22 : Nat → Int32 → wg_M → Option (Int32 × wg_M)) (n : Nat) (x2 : Int32) (s3 : wg_M) (v4 : Int32) : Option (Int32 × wg_M) := f_X6_begin_99 k22 n 260 v4 x2 s3
def q_X6_begin_99__2 (k22 : Nat → Int32 → wg_M → Option (Int32 × wg_M)) (n : Nat) (x1 : Int32) (x2 : Int32) (v2 : Int32) (s3 : wg_M) : Option (Int32 × wg_M) := if v2 = 0 then (f_X6_begin_125 k22 260 x1 x2 s3) else (wg_let (x1 + (1 : Int32)) (q_X6_begin_99__3 k22 n x2 s3))
def q_X6_begin_99__1 (k22 : Nat → Int32 → wg_M → Option (Int32 × wg_M)) (n : Nat) (x1 : Int32) (x2 : Int32) (σ : wg_M) (v1 : Int32) : Option (Int32 × wg_M) := wg_bd (f_X6_isDigit v1 σ) (q_X6_begin_99__2 k22 n x1 x2)
theorem e_X6_begin_99__1 (k22 : Nat → Int32 → wg_M → Option (Int32 × wg_M)) (n : Nat) (x1 : Int32) (x2 : Int32) (σ : wg_M) (v1 : Int32) : q_X6_begin_99__1 k22 n x1 x2 σ v1 = wg_bd (f_X6_isDigit v1 σ) (q_X6_begin_99__2 k22 n x1 x2) := rfl
theorem e_X6_begin_99__2 (k22 : Nat → Int32 → wg_M → Option (Int32 × wg_M)) (n : Nat) (x1 : Int32) (x2 : Int32) (v2 : Int32) (s3 : wg_M) : q_X6_begin_99__2 k22 n x1 x2 v2 s3 = if v2 = 0 then (f_X6_begin_125 k22 260 x1 x2 s3) else (wg_let (x1 + (1 : Int32)) (q_X6_begin_99__3 k22 n x2 s3)) := rfl
theorem e_X6_begin_99__3 (k22 : Nat → Int32 → wg_M → Option (Int32 × wg_M)) (n : Nat) (x2 : Int32) (s3 : wg_M) (v4 : Int32) : q_X6_begin_99__3 k22 n x2 s3 v4 = f_X6_begin_99 k22 n 260 v4 x2 s3 := rfl
theorem e_X6_begin_99 (k22 : Nat → Int32 → wg_M → Option (Int32 × wg_M)) (n : Nat) (x1 : Int32) (x2 : Int32) (σ : wg_M) : f_X6_begin_99 k22 (n + 1) 260 x1 x2 σ = if (σ 260 2) ≤ x1 then (f_X6_begin_125 k22 260 x1 x2 σ) else (wg_ga 400 (σ 261) x1 (q_X6_begin_99__1 k22 n x1 x2 σ)) := by
  rw [f_X6_begin_99]
  simp only [sc_n261, sc_r260_1]
  rfl
def q_X6_begin_196__1 (k22 : Nat → Int32 → wg_M → Option (Int32 × wg_M)) (x1 : Int32) (_u1 : Int32) (s1 : wg_M) : Option (Int32 × wg_M) := f_X6_begin_201 k22 260 x1 s1
theorem e_X6_begin_196__1 (k22 : Nat → Int32 → wg_M → Option (Int32 × wg_M)) (x1 : Int32) (_u1 : Int32) (s1 : wg_M) : q_X6_begin_196__1 k22 x1 _u1 s1 = f_X6_begin_201 k22 260 x1 s1 := rfl
theorem e_X6_begin_196 (k22 : Nat → Int32 → wg_M → Option (Int32 × wg_M)) (x1 : Int32) (x2 : Int32) (t0 : Int32) (t1 : Nat) (σ : wg_M) : f_X6_begin_196 k22 260 x1 x2 t0 t1 σ = wg_bd (f_X6_addToken t1 t0 (0 : Int32) x2 σ) (q_X6_begin_196__1 k22 x1) := rfl
def q_X6_begin_72__2 (k22 : Nat → Int32 → wg_M → Option (Int32 × wg_M)) (x1 : Int32) (_u2 : Int32) (s3 : wg_M) : Option (Int32 × wg_M) := f_X6_begin_201 k22 260 x1 s3
def q_X6_begin_72__1 (k22 : Nat → Int32 → wg_M → Option (Int32 × wg_M)) (x1 : Int32) (x2 : Int32) (v1 : Int32) (s2 : wg_M) : Option (Int32 × wg_M) := wg_bd (f_X6_addToken 260 v1 (0 : Int32) x2 s2) (q_X6_begin_72__2 k22 x1)
theorem e_X6_begin_72__1 (k22 : Nat → Int32 → wg_M → Option (Int32 × wg_M)) (x1 : Int32) (x2 : Int32) (v1 : Int32) (s2 : wg_M) : q_X6_begin_72__1 k22 x1 x2 v1 s2 = wg_bd (f_X6_addToken 260 v1 (0 : Int32) x2 s2) (q_X6_begin_72__2 k22 x1) := rfl
theorem e_X6_begin_72__2 (k22 : Nat → Int32 → wg_M → Option (Int32 × wg_M)) (x1 : Int32) (_u2 : Int32) (s3 : wg_M) : q_X6_begin_72__2 k22 x1 _u2 s3 = f_X6_begin_201 k22 260 x1 s3 := rfl
theorem e_X6_begin_72 (k22 : Nat → Int32 → wg_M → Option (Int32 × wg_M)) (x1 : Int32) (x2 : Int32) (σ : wg_M) : f_X6_begin_72 k22 260 x1 x2 σ = wg_bd (f_X6_wordAt 260 x2 x1 σ) (q_X6_begin_72__1 k22 x1 x2) := rfl
def q_X6_begin_46__3 (k22 : Nat → Int32 → wg_M → Option (Int32 × wg_M)) (n : Nat) (x2 : Int32) (s3 : wg_M) (v4 : Int32) : Option (Int32 × wg_M) := f_X6_begin_46 k22 n 260 v4 x2 s3
def q_X6_begin_46__2 (k22 : Nat → Int32 → wg_M → Option (Int32 × wg_M)) (n : Nat) (x1 : Int32) (x2 : Int32) (v2 : Int32) (s3 : wg_M) : Option (Int32 × wg_M) := if v2 = 0 then (f_X6_begin_72 k22 260 x1 x2 s3) else (wg_let (x1 + (1 : Int32)) (q_X6_begin_46__3 k22 n x2 s3))
def q_X6_begin_46__1 (k22 : Nat → Int32 → wg_M → Option (Int32 × wg_M)) (n : Nat) (x1 : Int32) (x2 : Int32) (σ : wg_M) (v1 : Int32) : Option (Int32 × wg_M) := wg_bd (f_X6_isLetter v1 σ) (q_X6_begin_46__2 k22 n x1 x2)
theorem e_X6_begin_46__1 (k22 : Nat → Int32 → wg_M → Option (Int32 × wg_M)) (n : Nat) (x1 : Int32) (x2 : Int32) (σ : wg_M) (v1 : Int32) : q_X6_begin_46__1 k22 n x1 x2 σ v1 = wg_bd (f_X6_isLetter v1 σ) (q_X6_begin_46__2 k22 n x1 x2) := rfl
theorem e_X6_begin_46__2 (k22 : Nat → Int32 → wg_M → Option (Int32 × wg_M)) (n : Nat) (x1 : Int32) (x2 : Int32) (v2 : Int32) (s3 : wg_M) : q_X6_begin_46__2 k22 n x1 x2 v2 s3 = if v2 = 0 then (f_X6_begin_72 k22 260 x1 x2 s3) else (wg_let (x1 + (1 : Int32)) (q_X6_begin_46__3 k22 n x2 s3)) := rfl
theorem e_X6_begin_46__3 (k22 : Nat → Int32 → wg_M → Option (Int32 × wg_M)) (n : Nat) (x2 : Int32) (s3 : wg_M) (v4 : Int32) : q_X6_begin_46__3 k22 n x2 s3 v4 = f_X6_begin_46 k22 n 260 v4 x2 s3 := rfl
theorem e_X6_begin_46 (k22 : Nat → Int32 → wg_M → Option (Int32 × wg_M)) (n : Nat) (x1 : Int32) (x2 : Int32) (σ : wg_M) : f_X6_begin_46 k22 (n + 1) 260 x1 x2 σ = if (σ 260 2) ≤ x1 then (f_X6_begin_72 k22 260 x1 x2 σ) else (wg_ga 400 (σ 261) x1 (q_X6_begin_46__1 k22 n x1 x2 σ)) := by
  rw [f_X6_begin_46]
  simp only [sc_n261, sc_r260_1]
  rfl
def q_X6_begin_22__12 (n : Nat) (x2 : Int32) (v3 : Int32) (s14 : wg_M) (v15 : Int32) : Option (Int32 × wg_M) := f_X6_begin_196 (f_X6_begin_22  n) 260 v3 x2 v15 260 s14
def q_X6_begin_22__11 (n : Nat) (x2 : Int32) (v3 : Int32) (v13 : Int32) (s14 : wg_M) : Option (Int32 × wg_M) := if v13 = 0 then (f_X6_begin_196 (f_X6_begin_22  n) 260 v3 x2 (0 : Int32) 260 s14) else (wg_ga 400 (s14 261) x2 (q_X6_begin_22__12 n x2 v3 s14))
def q_X6_begin_22__10 (n : Nat) (x2 : Int32) (v3 : Int32) (s9 : wg_M) (v12 : Int32) : Option (Int32 × wg_M) := wg_bd (f_X6_isSign v12 s9) (q_X6_begin_22__11 n x2 v3)
def q_X6_begin_22__9 (n : Nat) (x2 : Int32) (v3 : Int32) (s9 : wg_M) (v11 : Int32) : Option (Int32 × wg_M) := if v11 = (10 : Int32) then (f_X6_begin_201 (f_X6_begin_22  n) 260 v3 s9) else (wg_ga 400 (s9 261) x2 (q_X6_begin_22__10 n x2 v3 s9))
def q_X6_begin_22__8 (n : Nat) (x2 : Int32) (v3 : Int32) (s9 : wg_M) (v10 : Int32) : Option (Int32 × wg_M) := if v10 = (32 : Int32) then (f_X6_begin_201 (f_X6_begin_22  n) 260 v3 s9) else (wg_ga 400 (s9 261) x2 (q_X6_begin_22__9 n x2 v3 s9))
def q_X6_begin_22__7 (n : Nat) (x2 : Int32) (v3 : Int32) (v8 : Int32) (s9 : wg_M) : Option (Int32 × wg_M) := if v8 = 0 then (wg_ga 400 (s9 261) x2 (q_X6_begin_22__8 n x2 v3 s9)) else (f_X6_begin_99 (f_X6_begin_22  n) wg_N 260 v3 x2 s9)
def q_X6_begin_22__6 (n : Nat) (x2 : Int32) (v3 : Int32) (s6 : wg_M) (v7 : Int32) : Option (Int32 × wg_M) := wg_bd (f_X6_isDigit v7 s6) (q_X6_begin_22__7 n x2 v3)
def q_X6_begin_22__5 (n : Nat) (x2 : Int32) (v3 : Int32) (v5 : Int32) (s6 : wg_M) : Option (Int32 × wg_M) := if v5 = 0 then (wg_ga 400 (s6 261) x2 (q_X6_begin_22__6 n x2 v3 s6)) else (f_X6_begin_46 (f_X6_begin_22  n) wg_N 260 v3 x2 s6)
def q_X6_begin_22__4 (n : Nat) (x2 : Int32) (σ : wg_M) (v3 : Int32) (v4 : Int32) : Option (Int32 × wg_M) := wg_bd (f_X6_isLetter v4 σ) (q_X6_begin_22__5 n x2 v3)
def q_X6_begin_22__3 (n : Nat) (x2 : Int32) (σ : wg_M) (v3 : Int32) : Option (Int32 × wg_M) := wg_ga 400 (σ 261) x2 (q_X6_begin_22__4 n x2 σ v3)
def q_X6_begin_22__2 (s2 : wg_M) : Option (Int32 × wg_M) := some (0, s2)
def q_X6_begin_22__1 (_u1 : Int32) (s1 : wg_M) : Option (Int32 × wg_M) := wg_st s1 260 2 (0 : Int32) q_X6_begin_22__2
theorem e_X6_begin_22__1 (_u1 : Int32) (s1 : wg_M) : q_X6_begin_22__1 _u1 s1 = wg_st s1 260 2 (0 : Int32) q_X6_begin_22__2 := rfl
theorem e_X6_begin_22__2 (s2 : wg_M) : q_X6_begin_22__2 s2 = some (0, s2) := rfl
theorem e_X6_begin_22__3 (n : Nat) (x2 : Int32) (σ : wg_M) (v3 : Int32) : q_X6_begin_22__3 n x2 σ v3 = wg_ga 400 (σ 261) x2 (q_X6_begin_22__4 n x2 σ v3) := rfl
theorem e_X6_begin_22__4 (n : Nat) (x2 : Int32) (σ : wg_M) (v3 : Int32) (v4 : Int32) : q_X6_begin_22__4 n x2 σ v3 v4 = wg_bd (f_X6_isLetter v4 σ) (q_X6_begin_22__5 n x2 v3) := rfl
theorem e_X6_begin_22__5 (n : Nat) (x2 : Int32) (v3 : Int32) (v5 : Int32) (s6 : wg_M) : q_X6_begin_22__5 n x2 v3 v5 s6 = if v5 = 0 then (wg_ga 400 (s6 261) x2 (q_X6_begin_22__6 n x2 v3 s6)) else (f_X6_begin_46 (f_X6_begin_22  n) wg_N 260 v3 x2 s6) := rfl
theorem e_X6_begin_22__6 (n : Nat) (x2 : Int32) (v3 : Int32) (s6 : wg_M) (v7 : Int32) : q_X6_begin_22__6 n x2 v3 s6 v7 = wg_bd (f_X6_isDigit v7 s6) (q_X6_begin_22__7 n x2 v3) := rfl
theorem e_X6_begin_22__7 (n : Nat) (x2 : Int32) (v3 : Int32) (v8 : Int32) (s9 : wg_M) : q_X6_begin_22__7 n x2 v3 v8 s9 = if v8 = 0 then (wg_ga 400 (s9 261) x2 (q_X6_begin_22__8 n x2 v3 s9)) else (f_X6_begin_99 (f_X6_begin_22  n) wg_N 260 v3 x2 s9) := rfl
theorem e_X6_begin_22__8 (n : Nat) (x2 : Int32) (v3 : Int32) (s9 : wg_M) (v10 : Int32) : q_X6_begin_22__8 n x2 v3 s9 v10 = if v10 = (32 : Int32) then (f_X6_begin_201 (f_X6_begin_22  n) 260 v3 s9) else (wg_ga 400 (s9 261) x2 (q_X6_begin_22__9 n x2 v3 s9)) := rfl
theorem e_X6_begin_22__9 (n : Nat) (x2 : Int32) (v3 : Int32) (s9 : wg_M) (v11 : Int32) : q_X6_begin_22__9 n x2 v3 s9 v11 = if v11 = (10 : Int32) then (f_X6_begin_201 (f_X6_begin_22  n) 260 v3 s9) else (wg_ga 400 (s9 261) x2 (q_X6_begin_22__10 n x2 v3 s9)) := rfl
theorem e_X6_begin_22__10 (n : Nat) (x2 : Int32) (v3 : Int32) (s9 : wg_M) (v12 : Int32) : q_X6_begin_22__10 n x2 v3 s9 v12 = wg_bd (f_X6_isSign v12 s9) (q_X6_begin_22__11 n x2 v3) := rfl
theorem e_X6_begin_22__11 (n : Nat) (x2 : Int32) (v3 : Int32) (v13 : Int32) (s14 : wg_M) : q_X6_begin_22__11 n x2 v3 v13 s14 = if v13 = 0 then (f_X6_begin_196 (f_X6_begin_22  n) 260 v3 x2 (0 : Int32) 260 s14) else (wg_ga 400 (s14 261) x2 (q_X6_begin_22__12 n x2 v3 s14)) := rfl
theorem e_X6_begin_22__12 (n : Nat) (x2 : Int32) (v3 : Int32) (s14 : wg_M) (v15 : Int32) : q_X6_begin_22__12 n x2 v3 s14 v15 = f_X6_begin_196 (f_X6_begin_22  n) 260 v3 x2 v15 260 s14 := rfl
theorem e_X6_begin_22 (n : Nat) (x2 : Int32) (σ : wg_M) : f_X6_begin_22 (n + 1) 260 x2 σ = if (σ 260 2) ≤ x2 then (wg_bd (f_X6_addToken 260 (1 : Int32) (0 : Int32) (σ 260 2) σ) q_X6_begin_22__1) else (wg_let (x2 + (1 : Int32)) (q_X6_begin_22__3 n x2 σ)) := by
  rw [f_X6_begin_22]
  simp only [sc_n261, sc_r260_1]
  rfl
def q_X6_begin__4 (s4 : wg_M) : Option (Int32 × wg_M) := f_X6_begin_22  wg_N 260 (0 : Int32) s4
def q_X6_begin__3 (s3 : wg_M) : Option (Int32 × wg_M) := wg_st s3 260 6 (0 : Int32) q_X6_begin__4
def q_X6_begin__2 (s2 : wg_M) : Option (Int32 × wg_M) := wg_st s2 260 7 (0 : Int32) q_X6_begin__3
def q_X6_begin__1 (s1 : wg_M) : Option (Int32 × wg_M) := wg_st s1 260 9 (-1 : Int32) q_X6_begin__2
theorem e_X6_begin__1 (s1 : wg_M) : q_X6_begin__1 s1 = wg_st s1 260 9 (-1 : Int32) q_X6_begin__2 := rfl
theorem e_X6_begin__2 (s2 : wg_M) : q_X6_begin__2 s2 = wg_st s2 260 7 (0 : Int32) q_X6_begin__3 := rfl
theorem e_X6_begin__3 (s3 : wg_M) : q_X6_begin__3 s3 = wg_st s3 260 6 (0 : Int32) q_X6_begin__4 := rfl
theorem e_X6_begin__4 (s4 : wg_M) : q_X6_begin__4 s4 = f_X6_begin_22  wg_N 260 (0 : Int32) s4 := rfl
theorem e_X6_begin (σ : wg_M) : f_X6_begin 260 σ = wg_st σ 260 8 (0 : Int32) q_X6_begin__1 := rfl
theorem e_X11_text_70 (σ : wg_M) : f_X11_text_70 281 σ = some (σ 274 4, σ) := by
  unfold f_X11_text_70
  simp only [sc_r260_11, sc_r281_3]
def q_X11_text__5 (_u5 : Int32) (s6 : wg_M) : Option (Int32 × wg_M) := f_X11_text_70  281 s6
def q_X11_text__4 (x1 : Int32) (v4 : Int32) (s5 : wg_M) : Option (Int32 × wg_M) := if v4 = 0 then (some ((-1 : Int32), s5)) else (if x1 = (3 : Int32) then (f_X11_text_70  281 s5) else (wg_bd (f_X5_forget 258 s5) q_X11_text__5))
def q_X11_text__3 (x1 : Int32) (v2 : Int32) (s3 : wg_M) : Option (Int32 × wg_M) := if v2 = 0 then (some ((-1 : Int32), s3)) else (wg_bd (f_X6_readLines 260 x1 s3) (q_X11_text__4 x1))
def q_X11_text__2 (v7 : Int32) (s8 : wg_M) : Option (Int32 × wg_M) := if v7 = 0 then (some ((-1 : Int32), s8)) else (some (s8 26 6, s8))
def q_X11_text__1 (x1 : Int32) (_u1 : Int32) (s1 : wg_M) : Option (Int32 × wg_M) := if x1 = 0 then (wg_bd (f_X6_readLaw 260 s1) q_X11_text__2) else (wg_bd (f_X11_within x1 (1 : Int32) (3 : Int32) s1) (q_X11_text__3 x1))
theorem e_X11_text__1 (x1 : Int32) (_u1 : Int32) (s1 : wg_M) : q_X11_text__1 x1 _u1 s1 = if x1 = 0 then (wg_bd (f_X6_readLaw 260 s1) q_X11_text__2) else (wg_bd (f_X11_within x1 (1 : Int32) (3 : Int32) s1) (q_X11_text__3 x1)) := rfl
theorem e_X11_text__2 (v7 : Int32) (s8 : wg_M) : q_X11_text__2 v7 s8 = if v7 = 0 then (some ((-1 : Int32), s8)) else (some (s8 26 6, s8)) := rfl
theorem e_X11_text__3 (x1 : Int32) (v2 : Int32) (s3 : wg_M) : q_X11_text__3 x1 v2 s3 = if v2 = 0 then (some ((-1 : Int32), s3)) else (wg_bd (f_X6_readLines 260 x1 s3) (q_X11_text__4 x1)) := rfl
theorem e_X11_text__4 (x1 : Int32) (v4 : Int32) (s5 : wg_M) : q_X11_text__4 x1 v4 s5 = if v4 = 0 then (some ((-1 : Int32), s5)) else (if x1 = (3 : Int32) then (f_X11_text_70  281 s5) else (wg_bd (f_X5_forget 258 s5) q_X11_text__5)) := rfl
theorem e_X11_text__5 (_u5 : Int32) (s6 : wg_M) : q_X11_text__5 _u5 s6 = f_X11_text_70  281 s6 := rfl
theorem e_X11_text (x1 : Int32) (σ : wg_M) : f_X11_text 281 x1 σ = wg_bd (f_X6_begin 260 σ) (q_X11_text__1 x1) := by
  unfold f_X11_text
  simp only [sc_r0_2, sc_r281_0, sc_r281_2, sc_r281_3]
  rfl

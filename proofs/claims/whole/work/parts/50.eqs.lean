/-! shapes of the cells that are met by number -/
theorem sc_n3 : wg_n Sc 3 = 8 := by decide
theorem sc_n4 : wg_n Sc 4 = 8 := by decide
theorem sc_n5 : wg_n Sc 5 = 8 := by decide
theorem sc_n6 : wg_n Sc 6 = 8 := by decide
theorem sc_n7 : wg_n Sc 7 = 8 := by decide
theorem sc_n8 : wg_n Sc 8 = 64 := by decide
theorem sc_n9 : wg_n Sc 9 = 64 := by decide
theorem sc_n10 : wg_n Sc 10 = 64 := by decide
theorem sc_n12 : wg_n Sc 12 = 10 := by decide
theorem sc_n13 : wg_n Sc 13 = 10 := by decide
theorem sc_n14 : wg_n Sc 14 = 10 := by decide
theorem sc_n15 : wg_n Sc 15 = 10 := by decide
theorem sc_n16 : wg_n Sc 16 = 10 := by decide
theorem sc_n17 : wg_n Sc 17 = 14 := by decide
theorem sc_n18 : wg_n Sc 18 = 14 := by decide
theorem sc_n19 : wg_n Sc 19 = 14 := by decide
theorem sc_n20 : wg_n Sc 20 = 14 := by decide
theorem sc_n22 : wg_n Sc 22 = 150 := by decide
theorem sc_n23 : wg_n Sc 23 = 150 := by decide
theorem sc_n24 : wg_n Sc 24 = 150 := by decide
theorem sc_n25 : wg_n Sc 25 = 150 := by decide
theorem sc_n27 : wg_n Sc 27 = 400 := by decide
theorem sc_n28 : wg_n Sc 28 = 400 := by decide
theorem sc_n29 : wg_n Sc 29 = 16 := by decide
theorem sc_n30 : wg_n Sc 30 = 16 := by decide
theorem sc_n31 : wg_n Sc 31 = 16 := by decide
theorem sc_n32 : wg_n Sc 32 = 10 := by decide
theorem sc_n33 : wg_n Sc 33 = 32 := by decide
theorem sc_n50 : wg_n Sc 50 = 8 := by decide
theorem sc_n51 : wg_n Sc 51 = 8 := by decide
theorem sc_n52 : wg_n Sc 52 = 8 := by decide
theorem sc_n53 : wg_n Sc 53 = 16 := by decide
theorem sc_n54 : wg_n Sc 54 = 16 := by decide
theorem sc_n55 : wg_n Sc 55 = 20 := by decide
theorem sc_n56 : wg_n Sc 56 = 7 := by decide
theorem sc_n57 : wg_n Sc 57 = 7 := by decide
theorem sc_n58 : wg_n Sc 58 = 14 := by decide
theorem sc_n261 : wg_n Sc 261 = 400 := by decide
theorem sc_n262 : wg_n Sc 262 = 401 := by decide
theorem sc_n263 : wg_n Sc 263 = 401 := by decide
theorem sc_n264 : wg_n Sc 264 = 401 := by decide
theorem sc_n265 : wg_n Sc 265 = 32 := by decide
theorem sc_n267 : wg_n Sc 267 = 400 := by decide
theorem sc_n268 : wg_n Sc 268 = 400 := by decide
theorem sc_n269 : wg_n Sc 269 = 16 := by decide
theorem sc_n270 : wg_n Sc 270 = 16 := by decide
theorem sc_n271 : wg_n Sc 271 = 16 := by decide
theorem sc_n275 : wg_n Sc 275 = 16 := by decide
theorem sc_n276 : wg_n Sc 276 = 16 := by decide
theorem sc_n277 : wg_n Sc 277 = 16 := by decide
theorem sc_n278 : wg_n Sc 278 = 16 := by decide
theorem sm_n1 : wg_n Sm 1 = 295 := by decide
theorem sm_n2 : wg_n Sm 2 = 1770 := by decide
theorem sm_n3 : wg_n Sm 3 = 295 := by decide
theorem sm_n4 : wg_n Sm 4 = 8 := by decide
theorem sm_n5 : wg_n Sm 5 = 10 := by decide
theorem sm_n6 : wg_n Sm 6 = 14 := by decide
theorem sm_n7 : wg_n Sm 7 = 14 := by decide
theorem sm_n8 : wg_n Sm 8 = 600 := by decide
theorem sm_n9 : wg_n Sm 9 = 400 := by decide
theorem sm_n10 : wg_n Sm 10 = 129 := by decide
theorem sm_n11 : wg_n Sm 11 = 2 := by decide
theorem sm_n12 : wg_n Sm 12 = 48 := by decide
theorem sm_n13 : wg_n Sm 13 = 48 := by decide
theorem sm_n14 : wg_n Sm 14 = 48 := by decide
theorem sm_n15 : wg_n Sm 15 = 48 := by decide
theorem sm_n16 : wg_n Sm 16 = 1200 := by decide
theorem sm_n17 : wg_n Sm 17 = 1200 := by decide
theorem sm_n18 : wg_n Sm 18 = 40 := by decide
theorem sm_n19 : wg_n Sm 19 = 96 := by decide
theorem sm_n20 : wg_n Sm 20 = 128 := by decide
theorem sm_n21 : wg_n Sm 21 = 16 := by decide
theorem sm_n22 : wg_n Sm 22 = 10 := by decide
theorem sm_n23 : wg_n Sm 23 = 420 := by decide
theorem sm_n24 : wg_n Sm 24 = 8 := by decide
theorem sm_n25 : wg_n Sm 25 = 8 := by decide
theorem sm_n26 : wg_n Sm 26 = 8 := by decide
theorem sm_n27 : wg_n Sm 27 = 14 := by decide
theorem sm_n28 : wg_n Sm 28 = 14 := by decide
theorem sm_n29 : wg_n Sm 29 = 20 := by decide
theorem sm_n30 : wg_n Sm 30 = 7 := by decide
theorem sm_n31 : wg_n Sm 31 = 7 := by decide
theorem sm_n32 : wg_n Sm 32 = 128 := by decide
theorem sm_n33 : wg_n Sm 33 = 2300 := by decide
theorem sc_r0_0 : wg_r Sc 0 0 = 1 := by decide
theorem sc_r0_1 : wg_r Sc 0 1 = 21 := by decide
theorem sc_r0_2 : wg_r Sc 0 2 = 26 := by decide
theorem sc_r0_3 : wg_r Sc 0 3 = 34 := by decide
theorem sc_r0_4 : wg_r Sc 0 4 = 39 := by decide
theorem sc_r0_5 : wg_r Sc 0 5 = 44 := by decide
theorem sc_r0_6 : wg_r Sc 0 6 = 49 := by decide
theorem sc_r1_0 : wg_r Sc 1 0 = 2 := by decide
theorem sc_r1_1 : wg_r Sc 1 1 = 11 := by decide
theorem sc_r1_2 : wg_r Sc 1 2 = 17 := by decide
theorem sc_r1_3 : wg_r Sc 1 3 = 18 := by decide
theorem sc_r1_4 : wg_r Sc 1 4 = 19 := by decide
theorem sc_r1_5 : wg_r Sc 1 5 = 20 := by decide
theorem sc_r2_0 : wg_r Sc 2 0 = 3 := by decide
theorem sc_r2_1 : wg_r Sc 2 1 = 4 := by decide
theorem sc_r2_2 : wg_r Sc 2 2 = 5 := by decide
theorem sc_r2_3 : wg_r Sc 2 3 = 6 := by decide
theorem sc_r2_4 : wg_r Sc 2 4 = 7 := by decide
theorem sc_r2_5 : wg_r Sc 2 5 = 8 := by decide
theorem sc_r2_6 : wg_r Sc 2 6 = 9 := by decide
theorem sc_r2_7 : wg_r Sc 2 7 = 10 := by decide
theorem sc_r11_0 : wg_r Sc 11 0 = 12 := by decide
theorem sc_r11_1 : wg_r Sc 11 1 = 13 := by decide
theorem sc_r11_2 : wg_r Sc 11 2 = 14 := by decide
theorem sc_r11_3 : wg_r Sc 11 3 = 15 := by decide
theorem sc_r11_4 : wg_r Sc 11 4 = 16 := by decide
theorem sc_r21_0 : wg_r Sc 21 0 = 22 := by decide
theorem sc_r21_1 : wg_r Sc 21 1 = 23 := by decide
theorem sc_r21_2 : wg_r Sc 21 2 = 24 := by decide
theorem sc_r21_3 : wg_r Sc 21 3 = 25 := by decide
theorem sc_r26_0 : wg_r Sc 26 0 = 27 := by decide
theorem sc_r26_1 : wg_r Sc 26 1 = 28 := by decide
theorem sc_r26_3 : wg_r Sc 26 3 = 29 := by decide
theorem sc_r26_4 : wg_r Sc 26 4 = 30 := by decide
theorem sc_r26_5 : wg_r Sc 26 5 = 31 := by decide
theorem sc_r26_7 : wg_r Sc 26 7 = 32 := by decide
theorem sc_r26_8 : wg_r Sc 26 8 = 33 := by decide
theorem sc_r49_0 : wg_r Sc 49 0 = 50 := by decide
theorem sc_r49_1 : wg_r Sc 49 1 = 51 := by decide
theorem sc_r49_2 : wg_r Sc 49 2 = 52 := by decide
theorem sc_r49_4 : wg_r Sc 49 4 = 53 := by decide
theorem sc_r49_5 : wg_r Sc 49 5 = 54 := by decide
theorem sc_r49_7 : wg_r Sc 49 7 = 55 := by decide
theorem sc_r49_8 : wg_r Sc 49 8 = 56 := by decide
theorem sc_r49_9 : wg_r Sc 49 9 = 57 := by decide
theorem sc_r49_11 : wg_r Sc 49 11 = 58 := by decide
theorem sc_r260_0 : wg_r Sc 260 0 = 0 := by decide
theorem sc_r260_1 : wg_r Sc 260 1 = 261 := by decide
theorem sc_r260_3 : wg_r Sc 260 3 = 262 := by decide
theorem sc_r260_4 : wg_r Sc 260 4 = 263 := by decide
theorem sc_r260_5 : wg_r Sc 260 5 = 264 := by decide
theorem sc_r260_10 : wg_r Sc 260 10 = 266 := by decide
theorem sc_r260_11 : wg_r Sc 260 11 = 274 := by decide
theorem sc_r260_12 : wg_r Sc 260 12 = 265 := by decide
theorem sc_r266_0 : wg_r Sc 266 0 = 267 := by decide
theorem sc_r266_1 : wg_r Sc 266 1 = 268 := by decide
theorem sc_r266_3 : wg_r Sc 266 3 = 269 := by decide
theorem sc_r266_4 : wg_r Sc 266 4 = 270 := by decide
theorem sc_r266_5 : wg_r Sc 266 5 = 271 := by decide
theorem sc_r274_0 : wg_r Sc 274 0 = 275 := by decide
theorem sc_r274_1 : wg_r Sc 274 1 = 276 := by decide
theorem sc_r274_2 : wg_r Sc 274 2 = 277 := by decide
theorem sc_r274_3 : wg_r Sc 274 3 = 278 := by decide
theorem sc_r279_0 : wg_r Sc 279 0 = 0 := by decide
theorem sc_r279_1 : wg_r Sc 279 1 = 1 := by decide
theorem sc_r279_2 : wg_r Sc 279 2 = 2 := by decide
theorem sc_r279_3 : wg_r Sc 279 3 = 11 := by decide
theorem sc_r279_4 : wg_r Sc 279 4 = 26 := by decide
theorem sc_r279_5 : wg_r Sc 279 5 = 118 := by decide
theorem sc_r280_0 : wg_r Sc 280 0 = 0 := by decide
theorem sc_r280_1 : wg_r Sc 280 1 = 279 := by decide
theorem sc_r281_0 : wg_r Sc 281 0 = 0 := by decide
theorem sc_r281_1 : wg_r Sc 281 1 = 59 := by decide
theorem sc_r281_2 : wg_r Sc 281 2 = 258 := by decide
theorem sc_r281_3 : wg_r Sc 281 3 = 260 := by decide
theorem sc_r281_4 : wg_r Sc 281 4 = 279 := by decide
theorem sc_r281_5 : wg_r Sc 281 5 = 280 := by decide
theorem sm_r0_1 : wg_r Sm 0 1 = 1 := by decide
theorem sm_r0_2 : wg_r Sm 0 2 = 2 := by decide
theorem sm_r0_4 : wg_r Sm 0 4 = 3 := by decide
theorem sm_r0_9 : wg_r Sm 0 9 = 4 := by decide
theorem sm_r0_10 : wg_r Sm 0 10 = 5 := by decide
theorem sm_r0_11 : wg_r Sm 0 11 = 6 := by decide
theorem sm_r0_12 : wg_r Sm 0 12 = 7 := by decide
theorem sm_r0_13 : wg_r Sm 0 13 = 8 := by decide
theorem sm_r0_14 : wg_r Sm 0 14 = 9 := by decide
theorem sm_r0_20 : wg_r Sm 0 20 = 10 := by decide
theorem sm_r0_21 : wg_r Sm 0 21 = 11 := by decide
theorem sm_r0_22 : wg_r Sm 0 22 = 12 := by decide
theorem sm_r0_23 : wg_r Sm 0 23 = 13 := by decide
theorem sm_r0_24 : wg_r Sm 0 24 = 14 := by decide
theorem sm_r0_25 : wg_r Sm 0 25 = 15 := by decide
theorem sm_r0_26 : wg_r Sm 0 26 = 16 := by decide
theorem sm_r0_27 : wg_r Sm 0 27 = 17 := by decide
theorem sm_r0_31 : wg_r Sm 0 31 = 18 := by decide
theorem sm_r0_38 : wg_r Sm 0 38 = 19 := by decide
theorem sm_r0_40 : wg_r Sm 0 40 = 20 := by decide
theorem sm_r0_42 : wg_r Sm 0 42 = 21 := by decide
theorem sm_r0_43 : wg_r Sm 0 43 = 22 := by decide
theorem sm_r0_44 : wg_r Sm 0 44 = 23 := by decide
theorem sm_r0_46 : wg_r Sm 0 46 = 24 := by decide
theorem sm_r0_47 : wg_r Sm 0 47 = 25 := by decide
theorem sm_r0_48 : wg_r Sm 0 48 = 26 := by decide
theorem sm_r0_50 : wg_r Sm 0 50 = 27 := by decide
theorem sm_r0_51 : wg_r Sm 0 51 = 28 := by decide
theorem sm_r0_52 : wg_r Sm 0 52 = 29 := by decide
theorem sm_r0_54 : wg_r Sm 0 54 = 30 := by decide
theorem sm_r0_55 : wg_r Sm 0 55 = 31 := by decide
theorem sm_r0_56 : wg_r Sm 0 56 = 32 := by decide
theorem sm_r0_60 : wg_r Sm 0 60 = 33 := by decide
/-! the printed functions at their receivers -/
theorem e_X0_hasCase (x1 : Int32) (σ : wg_M) : f_X0_hasCase 1 x1 σ = if x1 < 0 then (some ((0 : Int32), σ)) else (if (σ 1 6) ≤ x1 then (some ((0 : Int32), σ)) else (some ((1 : Int32), σ))) := rfl
def q_X0_addCase__5 (s5 : wg_M) : Option (Int32 × wg_M) := some ((s5 1 6) - (1 : Int32), s5)
def q_X0_addCase__4 (s4 : wg_M) : Option (Int32 × wg_M) := wg_st s4 1 6 ((s4 1 6) + (1 : Int32)) q_X0_addCase__5
def q_X0_addCase__3 (s3 : wg_M) : Option (Int32 × wg_M) := wg_sa 14 s3 20 (s3 1 6) (-1 : Int32) q_X0_addCase__4
def q_X0_addCase__2 (s2 : wg_M) : Option (Int32 × wg_M) := wg_sa 14 s2 19 (s2 1 6) (-10000 : Int32) q_X0_addCase__3
def q_X0_addCase__1 (x2 : Int32) (s1 : wg_M) : Option (Int32 × wg_M) := wg_sa 14 s1 18 (s1 1 6) x2 q_X0_addCase__2
theorem e_X0_addCase__1 (x2 : Int32) (s1 : wg_M) : q_X0_addCase__1 x2 s1 = wg_sa 14 s1 18 (s1 1 6) x2 q_X0_addCase__2 := rfl
theorem e_X0_addCase__2 (s2 : wg_M) : q_X0_addCase__2 s2 = wg_sa 14 s2 19 (s2 1 6) (-10000 : Int32) q_X0_addCase__3 := rfl
theorem e_X0_addCase__3 (s3 : wg_M) : q_X0_addCase__3 s3 = wg_sa 14 s3 20 (s3 1 6) (-1 : Int32) q_X0_addCase__4 := rfl
theorem e_X0_addCase__4 (s4 : wg_M) : q_X0_addCase__4 s4 = wg_st s4 1 6 ((s4 1 6) + (1 : Int32)) q_X0_addCase__5 := rfl
theorem e_X0_addCase__5 (s5 : wg_M) : q_X0_addCase__5 s5 = some ((s5 1 6) - (1 : Int32), s5) := rfl
theorem e_X0_addCase (x1 : Int32) (x2 : Int32) (σ : wg_M) : f_X0_addCase 1 x1 x2 σ = if (σ 1 6) < (14 : Int32) then (wg_sa 14 σ 17 (σ 1 6) x1 (q_X0_addCase__1 x2)) else (some ((-1 : Int32), σ)) := by
  unfold f_X0_addCase
  simp only [sc_n17, sc_n18, sc_n19, sc_n20, sc_r1_2, sc_r1_3, sc_r1_4, sc_r1_5]
  rfl
def q_X0_openSet_30__1 (k4 : Nat → Int32 → Int32 → wg_M → Option (Int32 × wg_M)) (x1 : Int32) (σ : wg_M) (v1 : Int32) : Option (Int32 × wg_M) := k4 1 x1 v1 σ
theorem e_X0_openSet_30__1 (k4 : Nat → Int32 → Int32 → wg_M → Option (Int32 × wg_M)) (x1 : Int32) (σ : wg_M) (v1 : Int32) : q_X0_openSet_30__1 k4 x1 σ v1 = k4 1 x1 v1 σ := rfl
theorem e_X0_openSet_30 (k4 : Nat → Int32 → Int32 → wg_M → Option (Int32 × wg_M)) (x1 : Int32) (x2 : Int32) (σ : wg_M) : f_X0_openSet_30 k4 1 x1 x2 σ = wg_let (x2 + (1 : Int32)) (q_X0_openSet_30__1 k4 x1 σ) := rfl
def q_X0_openSet_4__2 (n : Nat) (x2 : Int32) (σ : wg_M) (v2 : Int32) : Option (Int32 × wg_M) := f_X0_openSet_30 (f_X0_openSet_4  n) 1 v2 x2 σ
def q_X0_openSet_4__1 (n : Nat) (x1 : Int32) (x2 : Int32) (σ : wg_M) (v1 : Int32) : Option (Int32 × wg_M) := if v1 = (-10000 : Int32) then (wg_let (x1 ||| ((1 : Int32) <<< (x2 &&& 31))) (q_X0_openSet_4__2 n x2 σ)) else (f_X0_openSet_30 (f_X0_openSet_4  n) 1 x1 x2 σ)
theorem e_X0_openSet_4__1 (n : Nat) (x1 : Int32) (x2 : Int32) (σ : wg_M) (v1 : Int32) : q_X0_openSet_4__1 n x1 x2 σ v1 = if v1 = (-10000 : Int32) then (wg_let (x1 ||| ((1 : Int32) <<< (x2 &&& 31))) (q_X0_openSet_4__2 n x2 σ)) else (f_X0_openSet_30 (f_X0_openSet_4  n) 1 x1 x2 σ) := rfl
theorem e_X0_openSet_4__2 (n : Nat) (x2 : Int32) (σ : wg_M) (v2 : Int32) : q_X0_openSet_4__2 n x2 σ v2 = f_X0_openSet_30 (f_X0_openSet_4  n) 1 v2 x2 σ := rfl
theorem e_X0_openSet_4 (n : Nat) (x1 : Int32) (x2 : Int32) (σ : wg_M) : f_X0_openSet_4 (n + 1) 1 x1 x2 σ = if (σ 1 6) ≤ x2 then (some (x1, σ)) else (wg_ga 14 (σ 19) x2 (q_X0_openSet_4__1 n x1 x2 σ)) := by
  rw [f_X0_openSet_4]
  simp only [sc_n19, sc_r1_4]
  rfl
theorem e_X0_openSet (σ : wg_M) : f_X0_openSet 1 σ = f_X0_openSet_4  wg_N 1 (0 : Int32) (0 : Int32) σ := rfl
def q_X2_deadSet_4__3 (n : Nat) (σ : wg_M) (v2 : Int32) (v3 : Int32) : Option (Int32 × wg_M) := f_X2_deadSet_4  n 11 v2 v3 σ
def q_X2_deadSet_4__2 (n : Nat) (x2 : Int32) (σ : wg_M) (v2 : Int32) : Option (Int32 × wg_M) := wg_let (x2 + (1 : Int32)) (q_X2_deadSet_4__3 n σ v2)
def q_X2_deadSet_4__1 (n : Nat) (x1 : Int32) (x2 : Int32) (σ : wg_M) (v1 : Int32) : Option (Int32 × wg_M) := wg_let (x1 ||| (v1 <<< (x2 &&& 31))) (q_X2_deadSet_4__2 n x2 σ)
theorem e_X2_deadSet_4__1 (n : Nat) (x1 : Int32) (x2 : Int32) (σ : wg_M) (v1 : Int32) : q_X2_deadSet_4__1 n x1 x2 σ v1 = wg_let (x1 ||| (v1 <<< (x2 &&& 31))) (q_X2_deadSet_4__2 n x2 σ) := rfl
theorem e_X2_deadSet_4__2 (n : Nat) (x2 : Int32) (σ : wg_M) (v2 : Int32) : q_X2_deadSet_4__2 n x2 σ v2 = wg_let (x2 + (1 : Int32)) (q_X2_deadSet_4__3 n σ v2) := rfl
theorem e_X2_deadSet_4__3 (n : Nat) (σ : wg_M) (v2 : Int32) (v3 : Int32) : q_X2_deadSet_4__3 n σ v2 v3 = f_X2_deadSet_4  n 11 v2 v3 σ := rfl
theorem e_X2_deadSet_4 (n : Nat) (x1 : Int32) (x2 : Int32) (σ : wg_M) : f_X2_deadSet_4 (n + 1) 11 x1 x2 σ = if (σ 11 5) ≤ x2 then (some (x1, σ)) else (wg_ga 10 (σ 15) x2 (q_X2_deadSet_4__1 n x1 x2 σ)) := by
  rw [f_X2_deadSet_4]
  simp only [sc_n15, sc_r11_3]
  rfl
theorem e_X2_deadSet (σ : wg_M) : f_X2_deadSet 11 σ = f_X2_deadSet_4  wg_N 11 (0 : Int32) (0 : Int32) σ := rfl
def q_X0_allRules_4__3 (n : Nat) (σ : wg_M) (v2 : Int32) (v3 : Int32) : Option (Int32 × wg_M) := f_X0_allRules_4  n 1 v2 v3 σ
def q_X0_allRules_4__2 (n : Nat) (x2 : Int32) (σ : wg_M) (v2 : Int32) : Option (Int32 × wg_M) := wg_let (x2 + (1 : Int32)) (q_X0_allRules_4__3 n σ v2)
def q_X0_allRules_4__1 (n : Nat) (x1 : Int32) (x2 : Int32) (σ : wg_M) (v1 : Int32) : Option (Int32 × wg_M) := wg_let (x1 + v1) (q_X0_allRules_4__2 n x2 σ)
theorem e_X0_allRules_4__1 (n : Nat) (x1 : Int32) (x2 : Int32) (σ : wg_M) (v1 : Int32) : q_X0_allRules_4__1 n x1 x2 σ v1 = wg_let (x1 + v1) (q_X0_allRules_4__2 n x2 σ) := rfl
theorem e_X0_allRules_4__2 (n : Nat) (x2 : Int32) (σ : wg_M) (v2 : Int32) : q_X0_allRules_4__2 n x2 σ v2 = wg_let (x2 + (1 : Int32)) (q_X0_allRules_4__3 n σ v2) := rfl
theorem e_X0_allRules_4__3 (n : Nat) (σ : wg_M) (v2 : Int32) (v3 : Int32) : q_X0_allRules_4__3 n σ v2 v3 = f_X0_allRules_4  n 1 v2 v3 σ := rfl
theorem e_X0_allRules_4 (n : Nat) (x1 : Int32) (x2 : Int32) (σ : wg_M) : f_X0_allRules_4 (n + 1) 1 x1 x2 σ = if (σ 2 8) ≤ x2 then (some (x1, σ)) else (wg_ga 8 (σ 7) x2 (q_X0_allRules_4__1 n x1 x2 σ)) := by
  rw [f_X0_allRules_4]
  simp only [sc_n7, sc_r1_0, sc_r2_4]
  rfl
theorem e_X0_allRules (σ : wg_M) : f_X0_allRules 1 σ = f_X0_allRules_4  wg_N 1 (0 : Int32) (0 : Int32) σ := rfl
def q_X9_hairOf_30__1 (k4 : Nat → Int32 → Int32 → Int32 → wg_M → Option (Int32 × wg_M)) (x1 : Int32) (x2 : Int32) (σ : wg_M) (v1 : Int32) : Option (Int32 × wg_M) := k4 2 x1 x2 v1 σ
theorem e_X9_hairOf_30__1 (k4 : Nat → Int32 → Int32 → Int32 → wg_M → Option (Int32 × wg_M)) (x1 : Int32) (x2 : Int32) (σ : wg_M) (v1 : Int32) : q_X9_hairOf_30__1 k4 x1 x2 σ v1 = k4 2 x1 x2 v1 σ := rfl
theorem e_X9_hairOf_30 (k4 : Nat → Int32 → Int32 → Int32 → wg_M → Option (Int32 × wg_M)) (x1 : Int32) (x2 : Int32) (x3 : Int32) (σ : wg_M) : f_X9_hairOf_30 k4 2 x1 x2 x3 σ = wg_let (x3 + (1 : Int32)) (q_X9_hairOf_30__1 k4 x1 x2 σ) := rfl
def q_X9_hairOf_4__2 (n : Nat) (x1 : Int32) (x3 : Int32) (σ : wg_M) (v2 : Int32) : Option (Int32 × wg_M) := f_X9_hairOf_30 (f_X9_hairOf_4  n) 2 x1 v2 x3 σ
def q_X9_hairOf_4__1 (n : Nat) (x1 : Int32) (x2 : Int32) (x3 : Int32) (σ : wg_M) (v1 : Int32) : Option (Int32 × wg_M) := wg_let (x2 + v1) (q_X9_hairOf_4__2 n x1 x3 σ)
theorem e_X9_hairOf_4__1 (n : Nat) (x1 : Int32) (x2 : Int32) (x3 : Int32) (σ : wg_M) (v1 : Int32) : q_X9_hairOf_4__1 n x1 x2 x3 σ v1 = wg_let (x2 + v1) (q_X9_hairOf_4__2 n x1 x3 σ) := rfl
theorem e_X9_hairOf_4__2 (n : Nat) (x1 : Int32) (x3 : Int32) (σ : wg_M) (v2 : Int32) : q_X9_hairOf_4__2 n x1 x3 σ v2 = f_X9_hairOf_30 (f_X9_hairOf_4  n) 2 x1 v2 x3 σ := rfl
theorem e_X9_hairOf_4 (n : Nat) (x1 : Int32) (x2 : Int32) (x3 : Int32) (σ : wg_M) : f_X9_hairOf_4 (n + 1) 2 x1 x2 x3 σ = if (σ 2 8) ≤ x3 then (some (x2, σ)) else (if ((x1 >>> (x3 &&& 31)) &&& (1 : Int32)) = (1 : Int32) then (wg_ga 8 (σ 4) x3 (q_X9_hairOf_4__1 n x1 x2 x3 σ)) else (f_X9_hairOf_30 (f_X9_hairOf_4  n) 2 x1 x2 x3 σ)) := by
  rw [f_X9_hairOf_4]
  simp only [sc_n4, sc_r2_1]
  rfl
theorem e_X9_hairOf (x1 : Int32) (σ : wg_M) : f_X9_hairOf 2 x1 σ = f_X9_hairOf_4  wg_N 2 x1 (0 : Int32) (0 : Int32) σ := rfl
def q_X0_verdictsAbove_24__1 (k4 : Nat → Int32 → Int32 → wg_M → Option (Int32 × wg_M)) (x1 : Int32) (σ : wg_M) (v1 : Int32) : Option (Int32 × wg_M) := k4 1 x1 v1 σ
theorem e_X0_verdictsAbove_24__1 (k4 : Nat → Int32 → Int32 → wg_M → Option (Int32 × wg_M)) (x1 : Int32) (σ : wg_M) (v1 : Int32) : q_X0_verdictsAbove_24__1 k4 x1 σ v1 = k4 1 x1 v1 σ := rfl
theorem e_X0_verdictsAbove_24 (k4 : Nat → Int32 → Int32 → wg_M → Option (Int32 × wg_M)) (x1 : Int32) (x2 : Int32) (σ : wg_M) : f_X0_verdictsAbove_24 k4 1 x1 x2 σ = wg_let (x2 + (1 : Int32)) (q_X0_verdictsAbove_24__1 k4 x1 σ) := rfl
def q_X0_verdictsAbove_4__2 (n : Nat) (x2 : Int32) (σ : wg_M) (v2 : Int32) : Option (Int32 × wg_M) := f_X0_verdictsAbove_24 (f_X0_verdictsAbove_4  n) 1 v2 x2 σ
def q_X0_verdictsAbove_4__1 (n : Nat) (x1 : Int32) (x2 : Int32) (σ : wg_M) (v1 : Int32) : Option (Int32 × wg_M) := if v1 ≤ 0 then (f_X0_verdictsAbove_24 (f_X0_verdictsAbove_4  n) 1 x1 x2 σ) else (wg_let (x1 + (1 : Int32)) (q_X0_verdictsAbove_4__2 n x2 σ))
theorem e_X0_verdictsAbove_4__1 (n : Nat) (x1 : Int32) (x2 : Int32) (σ : wg_M) (v1 : Int32) : q_X0_verdictsAbove_4__1 n x1 x2 σ v1 = if v1 ≤ 0 then (f_X0_verdictsAbove_24 (f_X0_verdictsAbove_4  n) 1 x1 x2 σ) else (wg_let (x1 + (1 : Int32)) (q_X0_verdictsAbove_4__2 n x2 σ)) := rfl
theorem e_X0_verdictsAbove_4__2 (n : Nat) (x2 : Int32) (σ : wg_M) (v2 : Int32) : q_X0_verdictsAbove_4__2 n x2 σ v2 = f_X0_verdictsAbove_24 (f_X0_verdictsAbove_4  n) 1 v2 x2 σ := rfl
theorem e_X0_verdictsAbove_4 (n : Nat) (x1 : Int32) (x2 : Int32) (σ : wg_M) : f_X0_verdictsAbove_4 (n + 1) 1 x1 x2 σ = if (σ 1 6) ≤ x2 then (some (x1, σ)) else (wg_ga 14 (σ 19) x2 (q_X0_verdictsAbove_4__1 n x1 x2 σ)) := by
  rw [f_X0_verdictsAbove_4]
  simp only [sc_n19, sc_r1_4]
  rfl
theorem e_X0_verdictsAbove (σ : wg_M) : f_X0_verdictsAbove 1 σ = f_X0_verdictsAbove_4  wg_N 1 (0 : Int32) (0 : Int32) σ := rfl
def q_X0_sumUp__5 (v9 : Int32) (s10 : wg_M) : Option (Int32 × wg_M) := some (v9, s10)
def q_X0_sumUp__4 (v7 : Int32) (s8 : wg_M) : Option (Int32 × wg_M) := some (v7, s8)
def q_X0_sumUp__3 (v5 : Int32) (s6 : wg_M) : Option (Int32 × wg_M) := some (v5, s6)
def q_X0_sumUp__2 (v3 : Int32) (s4 : wg_M) : Option (Int32 × wg_M) := some (v3, s4)
def q_X0_sumUp__1 (v1 : Int32) (s2 : wg_M) : Option (Int32 × wg_M) := wg_bd (f_J6_bitCount_0f7a4 v1 s2) q_X0_sumUp__2
theorem e_X0_sumUp__1 (v1 : Int32) (s2 : wg_M) : q_X0_sumUp__1 v1 s2 = wg_bd (f_J6_bitCount_0f7a4 v1 s2) q_X0_sumUp__2 := rfl
theorem e_X0_sumUp__2 (v3 : Int32) (s4 : wg_M) : q_X0_sumUp__2 v3 s4 = some (v3, s4) := rfl
theorem e_X0_sumUp__3 (v5 : Int32) (s6 : wg_M) : q_X0_sumUp__3 v5 s6 = some (v5, s6) := rfl
theorem e_X0_sumUp__4 (v7 : Int32) (s8 : wg_M) : q_X0_sumUp__4 v7 s8 = some (v7, s8) := rfl
theorem e_X0_sumUp__5 (v9 : Int32) (s10 : wg_M) : q_X0_sumUp__5 v9 s10 = some (v9, s10) := rfl
theorem e_X0_sumUp (x1 : Int32) (σ : wg_M) : f_X0_sumUp 1 x1 σ = wg_sw x1 (0) [wg_bd (f_X2_deadSet 11 σ) q_X0_sumUp__1, wg_bd (f_X0_allRules 1 σ) q_X0_sumUp__3, wg_bd (f_X9_hairOf 2 (((1 : Int32) <<< ((σ 2 8) &&& 31)) - (1 : Int32)) σ) q_X0_sumUp__4] (wg_bd (f_X0_verdictsAbove 1 σ) q_X0_sumUp__5) := by
  unfold f_X0_sumUp
  simp only [sc_r1_0, sc_r1_1]
  rfl
def q_X0_draw__2 (s1 : wg_M) (v2 : Int32) : Option (Int32 × wg_M) := some (v2, s1)
def q_X0_draw__1 (x1 : Int32) (s1 : wg_M) : Option (Int32 × wg_M) := if x1 ≤ 0 then (some ((0 : Int32), s1)) else (wg_rm (wg_ush (s1 1 8) (8 : Int32)) x1 (q_X0_draw__2 s1))
theorem e_X0_draw__1 (x1 : Int32) (s1 : wg_M) : q_X0_draw__1 x1 s1 = if x1 ≤ 0 then (some ((0 : Int32), s1)) else (wg_rm (wg_ush (s1 1 8) (8 : Int32)) x1 (q_X0_draw__2 s1)) := rfl
theorem e_X0_draw__2 (s1 : wg_M) (v2 : Int32) : q_X0_draw__2 s1 v2 = some (v2, s1) := rfl
theorem e_X0_draw (x1 : Int32) (σ : wg_M) : f_X0_draw 1 x1 σ = wg_st σ 1 8 (((σ 1 8) * (1664525 : Int32)) + (1013904223 : Int32)) (q_X0_draw__1 x1) := rfl
def q_X1_beginThought__2 (s2 : wg_M) : Option (Int32 × wg_M) := some (0, s2)
def q_X1_beginThought__1 (_u1 : Int32) (s1 : wg_M) : Option (Int32 × wg_M) := wg_bz (1 : Int32) (wg_st s1 279 6 (1 : Int32) q_X1_beginThought__2)
theorem e_X1_beginThought__1 (_u1 : Int32) (s1 : wg_M) : q_X1_beginThought__1 _u1 s1 = wg_bz (1 : Int32) (wg_st s1 279 6 (1 : Int32) q_X1_beginThought__2) := rfl
theorem e_X1_beginThought__2 (s2 : wg_M) : q_X1_beginThought__2 s2 = some (0, s2) := rfl
theorem e_X1_beginThought (σ : wg_M) : f_X1_beginThought 279 σ = wg_bd (f_X0_copyFrom 118 1 σ) q_X1_beginThought__1 := by
  unfold f_X1_beginThought
  simp only [sc_r279_1, sc_r279_5]
  rfl
def q_X1_endThought__2 (s2 : wg_M) : Option (Int32 × wg_M) := some (0, s2)
def q_X1_endThought__1 (_u1 : Int32) (s1 : wg_M) : Option (Int32 × wg_M) := wg_bz (0 : Int32) (wg_st s1 279 6 (0 : Int32) q_X1_endThought__2)
theorem e_X1_endThought__1 (_u1 : Int32) (s1 : wg_M) : q_X1_endThought__1 _u1 s1 = wg_bz (0 : Int32) (wg_st s1 279 6 (0 : Int32) q_X1_endThought__2) := rfl
theorem e_X1_endThought__2 (s2 : wg_M) : q_X1_endThought__2 s2 = some (0, s2) := rfl
theorem e_X1_endThought (σ : wg_M) : f_X1_endThought 279 σ = wg_bd (f_X0_copyFrom 1 118 σ) q_X1_endThought__1 := by
  unfold f_X1_endThought
  simp only [sc_r279_1, sc_r279_5]
  rfl
def q_X4_add_21__5 (s5 : wg_M) : Option (Int32 × wg_M) := some (0, s5)
def q_X4_add_21__4 (s4 : wg_M) : Option (Int32 × wg_M) := wg_st s4 21 4 ((s4 21 4) + (1 : Int32)) q_X4_add_21__5
def q_X4_add_21__3 (x4 : Int32) (s3 : wg_M) : Option (Int32 × wg_M) := wg_sa 150 s3 25 (s3 21 4) x4 q_X4_add_21__4
def q_X4_add_21__2 (x3 : Int32) (x4 : Int32) (s2 : wg_M) : Option (Int32 × wg_M) := wg_sa 150 s2 24 (s2 21 4) x3 (q_X4_add_21__3 x4)
def q_X4_add_21__1 (x2 : Int32) (x3 : Int32) (x4 : Int32) (s1 : wg_M) : Option (Int32 × wg_M) := wg_sa 150 s1 23 (s1 21 4) x2 (q_X4_add_21__2 x3 x4)
theorem e_X4_add_21__1 (x2 : Int32) (x3 : Int32) (x4 : Int32) (s1 : wg_M) : q_X4_add_21__1 x2 x3 x4 s1 = wg_sa 150 s1 23 (s1 21 4) x2 (q_X4_add_21__2 x3 x4) := rfl
theorem e_X4_add_21__2 (x3 : Int32) (x4 : Int32) (s2 : wg_M) : q_X4_add_21__2 x3 x4 s2 = wg_sa 150 s2 24 (s2 21 4) x3 (q_X4_add_21__3 x4) := rfl
theorem e_X4_add_21__3 (x4 : Int32) (s3 : wg_M) : q_X4_add_21__3 x4 s3 = wg_sa 150 s3 25 (s3 21 4) x4 q_X4_add_21__4 := rfl
theorem e_X4_add_21__4 (s4 : wg_M) : q_X4_add_21__4 s4 = wg_st s4 21 4 ((s4 21 4) + (1 : Int32)) q_X4_add_21__5 := rfl
theorem e_X4_add_21__5 (s5 : wg_M) : q_X4_add_21__5 s5 = some (0, s5) := rfl
theorem e_X4_add_21 (x1 : Int32) (x2 : Int32) (x3 : Int32) (x4 : Int32) (σ : wg_M) : f_X4_add 21 x1 x2 x3 x4 σ = if (σ 21 4) < (Int32.ofNat 150) then (wg_sa 150 σ 22 (σ 21 4) x1 (q_X4_add_21__1 x2 x3 x4)) else (some (0, σ)) := by
  unfold f_X4_add
  simp only [sc_n22, sc_n23, sc_n24, sc_n25, sc_r21_0, sc_r21_1, sc_r21_2, sc_r21_3]
  rfl
def q_X4_add_274__5 (s5 : wg_M) : Option (Int32 × wg_M) := some (0, s5)
def q_X4_add_274__4 (s4 : wg_M) : Option (Int32 × wg_M) := wg_st s4 274 4 ((s4 274 4) + (1 : Int32)) q_X4_add_274__5
def q_X4_add_274__3 (x4 : Int32) (s3 : wg_M) : Option (Int32 × wg_M) := wg_sa 16 s3 278 (s3 274 4) x4 q_X4_add_274__4
def q_X4_add_274__2 (x3 : Int32) (x4 : Int32) (s2 : wg_M) : Option (Int32 × wg_M) := wg_sa 16 s2 277 (s2 274 4) x3 (q_X4_add_274__3 x4)
def q_X4_add_274__1 (x2 : Int32) (x3 : Int32) (x4 : Int32) (s1 : wg_M) : Option (Int32 × wg_M) := wg_sa 16 s1 276 (s1 274 4) x2 (q_X4_add_274__2 x3 x4)
theorem e_X4_add_274__1 (x2 : Int32) (x3 : Int32) (x4 : Int32) (s1 : wg_M) : q_X4_add_274__1 x2 x3 x4 s1 = wg_sa 16 s1 276 (s1 274 4) x2 (q_X4_add_274__2 x3 x4) := rfl
theorem e_X4_add_274__2 (x3 : Int32) (x4 : Int32) (s2 : wg_M) : q_X4_add_274__2 x3 x4 s2 = wg_sa 16 s2 277 (s2 274 4) x3 (q_X4_add_274__3 x4) := rfl
theorem e_X4_add_274__3 (x4 : Int32) (s3 : wg_M) : q_X4_add_274__3 x4 s3 = wg_sa 16 s3 278 (s3 274 4) x4 q_X4_add_274__4 := rfl
theorem e_X4_add_274__4 (s4 : wg_M) : q_X4_add_274__4 s4 = wg_st s4 274 4 ((s4 274 4) + (1 : Int32)) q_X4_add_274__5 := rfl
theorem e_X4_add_274__5 (s5 : wg_M) : q_X4_add_274__5 s5 = some (0, s5) := rfl
theorem e_X4_add_274 (x1 : Int32) (x2 : Int32) (x3 : Int32) (x4 : Int32) (σ : wg_M) : f_X4_add 274 x1 x2 x3 x4 σ = if (σ 274 4) < (Int32.ofNat 16) then (wg_sa 16 σ 275 (σ 274 4) x1 (q_X4_add_274__1 x2 x3 x4)) else (some (0, σ)) := by
  unfold f_X4_add
  simp only [sc_n275, sc_n276, sc_n277, sc_n278, sc_r274_0, sc_r274_1, sc_r274_2, sc_r274_3]
  rfl
def q_X1_note__3 (s3 : wg_M) : Option (Int32 × wg_M) := some (0, s3)
def q_X1_note__2 (_u2 : Int32) (s2 : wg_M) : Option (Int32 × wg_M) := wg_st s2 1 9 (s2 21 4) q_X1_note__3
def q_X1_note__1 (x1 : Int32) (x2 : Int32) (x3 : Int32) (s1 : wg_M) : Option (Int32 × wg_M) := wg_bd (f_X4_add 21 (s1 1 7) x1 x2 x3 s1) q_X1_note__2
theorem e_X1_note__1 (x1 : Int32) (x2 : Int32) (x3 : Int32) (s1 : wg_M) : q_X1_note__1 x1 x2 x3 s1 = wg_bd (f_X4_add 21 (s1 1 7) x1 x2 x3 s1) q_X1_note__2 := rfl
theorem e_X1_note__2 (_u2 : Int32) (s2 : wg_M) : q_X1_note__2 _u2 s2 = wg_st s2 1 9 (s2 21 4) q_X1_note__3 := rfl
theorem e_X1_note__3 (s3 : wg_M) : q_X1_note__3 s3 = some (0, s3) := rfl
theorem e_X1_note (x1 : Int32) (x2 : Int32) (x3 : Int32) (σ : wg_M) : f_X1_note 279 x1 x2 x3 σ = if (σ 279 6) = 0 then (wg_st σ 21 4 (σ 1 9) (q_X1_note__1 x1 x2 x3)) else (some (0, σ)) := by
  unfold f_X1_note
  simp only [sc_r0_1, sc_r279_0, sc_r279_1]
  rfl
def q_X1_askNobody__2 (s2 : wg_M) : Option (Int32 × wg_M) := some (0, s2)
def q_X1_askNobody__1 (_u1 : Int32) (s1 : wg_M) : Option (Int32 × wg_M) := wg_sa 10 s1 32 (9 : Int32) (s1 1 7) q_X1_askNobody__2
theorem e_X1_askNobody__1 (_u1 : Int32) (s1 : wg_M) : q_X1_askNobody__1 _u1 s1 = wg_sa 10 s1 32 (9 : Int32) (s1 1 7) q_X1_askNobody__2 := rfl
theorem e_X1_askNobody__2 (s2 : wg_M) : q_X1_askNobody__2 s2 = some (0, s2) := rfl
theorem e_X1_askNobody (σ : wg_M) : f_X1_askNobody 279 σ = wg_bd (f_J7_fill_53178 32 (0 : Int32) σ) q_X1_askNobody__1 := by
  unfold f_X1_askNobody
  simp only [sc_n32, sc_r26_7, sc_r279_1, sc_r279_4]
  rfl
def q_X1_askJudge__6 (s6 : wg_M) : Option (Int32 × wg_M) := some (0, s6)
def q_X1_askJudge__5 (s4 : wg_M) (v5 : Int32) : Option (Int32 × wg_M) := wg_sa 10 s4 32 (8 : Int32) v5 q_X1_askJudge__6
def q_X1_askJudge__4 (x1 : Int32) (s4 : wg_M) : Option (Int32 × wg_M) := wg_ga 10 (s4 16) x1 (q_X1_askJudge__5 s4)
def q_X1_askJudge__3 (x1 : Int32) (s2 : wg_M) (v3 : Int32) : Option (Int32 × wg_M) := wg_sa 10 s2 32 (1 : Int32) v3 (q_X1_askJudge__4 x1)
def q_X1_askJudge__2 (x1 : Int32) (s2 : wg_M) : Option (Int32 × wg_M) := wg_ga 10 (s2 13) x1 (q_X1_askJudge__3 x1 s2)
def q_X1_askJudge__1 (x1 : Int32) (σ : wg_M) (v1 : Int32) : Option (Int32 × wg_M) := wg_sa 10 σ 32 (0 : Int32) v1 (q_X1_askJudge__2 x1)
theorem e_X1_askJudge__1 (x1 : Int32) (σ : wg_M) (v1 : Int32) : q_X1_askJudge__1 x1 σ v1 = wg_sa 10 σ 32 (0 : Int32) v1 (q_X1_askJudge__2 x1) := rfl
theorem e_X1_askJudge__2 (x1 : Int32) (s2 : wg_M) : q_X1_askJudge__2 x1 s2 = wg_ga 10 (s2 13) x1 (q_X1_askJudge__3 x1 s2) := rfl
theorem e_X1_askJudge__3 (x1 : Int32) (s2 : wg_M) (v3 : Int32) : q_X1_askJudge__3 x1 s2 v3 = wg_sa 10 s2 32 (1 : Int32) v3 (q_X1_askJudge__4 x1) := rfl
theorem e_X1_askJudge__4 (x1 : Int32) (s4 : wg_M) : q_X1_askJudge__4 x1 s4 = wg_ga 10 (s4 16) x1 (q_X1_askJudge__5 s4) := rfl
theorem e_X1_askJudge__5 (s4 : wg_M) (v5 : Int32) : q_X1_askJudge__5 s4 v5 = wg_sa 10 s4 32 (8 : Int32) v5 q_X1_askJudge__6 := rfl
theorem e_X1_askJudge__6 (s6 : wg_M) : q_X1_askJudge__6 s6 = some (0, s6) := rfl
theorem e_X1_askJudge (x1 : Int32) (σ : wg_M) : f_X1_askJudge 279 x1 σ = wg_ga 10 (σ 12) x1 (q_X1_askJudge__1 x1 σ) := by
  unfold f_X1_askJudge
  simp only [sc_n12, sc_n13, sc_n16, sc_n32, sc_r11_0, sc_r11_1, sc_r11_4, sc_r26_7, sc_r279_3, sc_r279_4]
  rfl
def q_X1_askWig__8 (s8 : wg_M) : Option (Int32 × wg_M) := some (0, s8)
def q_X1_askWig__7 (s6 : wg_M) (v7 : Int32) : Option (Int32 × wg_M) := wg_sa 10 s6 32 (5 : Int32) v7 q_X1_askWig__8
def q_X1_askWig__6 (x1 : Int32) (s6 : wg_M) : Option (Int32 × wg_M) := wg_ga 8 (s6 6) x1 (q_X1_askWig__7 s6)
def q_X1_askWig__5 (x1 : Int32) (s4 : wg_M) (v5 : Int32) : Option (Int32 × wg_M) := wg_sa 10 s4 32 (4 : Int32) v5 (q_X1_askWig__6 x1)
def q_X1_askWig__4 (x1 : Int32) (s4 : wg_M) : Option (Int32 × wg_M) := wg_ga 8 (s4 5) x1 (q_X1_askWig__5 x1 s4)
def q_X1_askWig__3 (x1 : Int32) (s2 : wg_M) (v3 : Int32) : Option (Int32 × wg_M) := wg_sa 10 s2 32 (3 : Int32) v3 (q_X1_askWig__4 x1)
def q_X1_askWig__2 (x1 : Int32) (s2 : wg_M) : Option (Int32 × wg_M) := wg_ga 8 (s2 4) x1 (q_X1_askWig__3 x1 s2)
def q_X1_askWig__1 (x1 : Int32) (σ : wg_M) (v1 : Int32) : Option (Int32 × wg_M) := wg_sa 10 σ 32 (2 : Int32) v1 (q_X1_askWig__2 x1)
theorem e_X1_askWig__1 (x1 : Int32) (σ : wg_M) (v1 : Int32) : q_X1_askWig__1 x1 σ v1 = wg_sa 10 σ 32 (2 : Int32) v1 (q_X1_askWig__2 x1) := rfl
theorem e_X1_askWig__2 (x1 : Int32) (s2 : wg_M) : q_X1_askWig__2 x1 s2 = wg_ga 8 (s2 4) x1 (q_X1_askWig__3 x1 s2) := rfl
theorem e_X1_askWig__3 (x1 : Int32) (s2 : wg_M) (v3 : Int32) : q_X1_askWig__3 x1 s2 v3 = wg_sa 10 s2 32 (3 : Int32) v3 (q_X1_askWig__4 x1) := rfl
theorem e_X1_askWig__4 (x1 : Int32) (s4 : wg_M) : q_X1_askWig__4 x1 s4 = wg_ga 8 (s4 5) x1 (q_X1_askWig__5 x1 s4) := rfl
theorem e_X1_askWig__5 (x1 : Int32) (s4 : wg_M) (v5 : Int32) : q_X1_askWig__5 x1 s4 v5 = wg_sa 10 s4 32 (4 : Int32) v5 (q_X1_askWig__6 x1) := rfl
theorem e_X1_askWig__6 (x1 : Int32) (s6 : wg_M) : q_X1_askWig__6 x1 s6 = wg_ga 8 (s6 6) x1 (q_X1_askWig__7 s6) := rfl
theorem e_X1_askWig__7 (s6 : wg_M) (v7 : Int32) : q_X1_askWig__7 s6 v7 = wg_sa 10 s6 32 (5 : Int32) v7 q_X1_askWig__8 := rfl
theorem e_X1_askWig__8 (s8 : wg_M) : q_X1_askWig__8 s8 = some (0, s8) := rfl
theorem e_X1_askWig (x1 : Int32) (σ : wg_M) : f_X1_askWig 279 x1 σ = wg_ga 8 (σ 3) x1 (q_X1_askWig__1 x1 σ) := by
  unfold f_X1_askWig
  simp only [sc_n3, sc_n4, sc_n5, sc_n6, sc_n32, sc_r2_0, sc_r2_1, sc_r2_2, sc_r2_3, sc_r26_7, sc_r279_2, sc_r279_4]
  rfl
theorem e_X3_joined (x0 : Int32) (x1 : Int32) (x2 : Int32) (σ : wg_M) : f_X3_joined x0 x1 x2 σ = wg_lz x0 [42, 43, 45, 60, 61, 62, 271] [some (x1 * x2, σ), some (x1 + x2, σ), some (x1 - x2, σ), if x2 ≤ x1 then (some ((0 : Int32), σ)) else (some ((1 : Int32), σ)), if x1 = x2 then (some ((1 : Int32), σ)) else (some ((0 : Int32), σ)), if x1 ≤ x2 then (some ((0 : Int32), σ)) else (some ((1 : Int32), σ)), some (x1 &&& x2, σ)] (some (x1 ||| x2, σ)) := rfl
def q_X3_run_191__1 (k5 : Nat → Int32 → Int32 → Int32 → wg_M → Option (Int32 × wg_M)) (x2 : Int32) (x3 : Int32) (σ : wg_M) (v1 : Int32) : Option (Int32 × wg_M) := k5 26 x2 x3 v1 σ
theorem e_X3_run_191__1 (k5 : Nat → Int32 → Int32 → Int32 → wg_M → Option (Int32 × wg_M)) (x2 : Int32) (x3 : Int32) (σ : wg_M) (v1 : Int32) : q_X3_run_191__1 k5 x2 x3 σ v1 = k5 26 x2 x3 v1 σ := rfl
theorem e_X3_run_191 (k5 : Nat → Int32 → Int32 → Int32 → wg_M → Option (Int32 × wg_M)) (x2 : Int32) (x3 : Int32) (x4 : Int32) (σ : wg_M) : f_X3_run_191 k5 26 x2 x3 x4 σ = wg_let (x4 + (1 : Int32)) (q_X3_run_191__1 k5 x2 x3 σ) := rfl
def q_X3_run_74__2 (k5 : Nat → Int32 → Int32 → Int32 → wg_M → Option (Int32 × wg_M)) (x2 : Int32) (x4 : Int32) (s1 : wg_M) (v2 : Int32) : Option (Int32 × wg_M) := f_X3_run_191 k5 26 x2 v2 x4 s1
def q_X3_run_74__1 (k5 : Nat → Int32 → Int32 → Int32 → wg_M → Option (Int32 × wg_M)) (x2 : Int32) (x3 : Int32) (x4 : Int32) (s1 : wg_M) : Option (Int32 × wg_M) := wg_let (x3 + (1 : Int32)) (q_X3_run_74__2 k5 x2 x4 s1)
theorem e_X3_run_74__1 (k5 : Nat → Int32 → Int32 → Int32 → wg_M → Option (Int32 × wg_M)) (x2 : Int32) (x3 : Int32) (x4 : Int32) (s1 : wg_M) : q_X3_run_74__1 k5 x2 x3 x4 s1 = wg_let (x3 + (1 : Int32)) (q_X3_run_74__2 k5 x2 x4 s1) := rfl
theorem e_X3_run_74__2 (k5 : Nat → Int32 → Int32 → Int32 → wg_M → Option (Int32 × wg_M)) (x2 : Int32) (x4 : Int32) (s1 : wg_M) (v2 : Int32) : q_X3_run_74__2 k5 x2 x4 s1 v2 = f_X3_run_191 k5 26 x2 v2 x4 s1 := rfl
theorem e_X3_run_74 (k5 : Nat → Int32 → Int32 → Int32 → wg_M → Option (Int32 × wg_M)) (x2 : Int32) (x3 : Int32) (x4 : Int32) (t0 : Int32) (t1 : Int32) (t2 : Nat) (σ : wg_M) : f_X3_run_74 k5 26 x2 x3 x4 t0 t1 t2 σ = wg_sa (wg_n Sc t2) σ t2 t1 t0 (q_X3_run_74__1 k5 x2 x3 x4) := rfl
def q_X3_run_32__3 (k5 : Nat → Int32 → Int32 → Int32 → wg_M → Option (Int32 × wg_M)) (x2 : Int32) (x3 : Int32) (x4 : Int32) (σ : wg_M) (v2 : Int32) : Option (Int32 × wg_M) := f_X3_run_74 k5 26 x2 x3 x4 v2 x3 33 σ
def q_X3_run_32__2 (k5 : Nat → Int32 → Int32 → Int32 → wg_M → Option (Int32 × wg_M)) (x2 : Int32) (x3 : Int32) (x4 : Int32) (σ : wg_M) (v1 : Int32) : Option (Int32 × wg_M) := wg_ga 10 (σ 32) v1 (q_X3_run_32__3 k5 x2 x3 x4 σ)
def q_X3_run_32__1 (k5 : Nat → Int32 → Int32 → Int32 → wg_M → Option (Int32 × wg_M)) (x2 : Int32) (x3 : Int32) (x4 : Int32) (σ : wg_M) (v3 : Int32) : Option (Int32 × wg_M) := f_X3_run_74 k5 26 x2 x3 x4 v3 x3 33 σ
theorem e_X3_run_32__1 (k5 : Nat → Int32 → Int32 → Int32 → wg_M → Option (Int32 × wg_M)) (x2 : Int32) (x3 : Int32) (x4 : Int32) (σ : wg_M) (v3 : Int32) : q_X3_run_32__1 k5 x2 x3 x4 σ v3 = f_X3_run_74 k5 26 x2 x3 x4 v3 x3 33 σ := rfl
theorem e_X3_run_32__2 (k5 : Nat → Int32 → Int32 → Int32 → wg_M → Option (Int32 × wg_M)) (x2 : Int32) (x3 : Int32) (x4 : Int32) (σ : wg_M) (v1 : Int32) : q_X3_run_32__2 k5 x2 x3 x4 σ v1 = wg_ga 10 (σ 32) v1 (q_X3_run_32__3 k5 x2 x3 x4 σ) := rfl
theorem e_X3_run_32__3 (k5 : Nat → Int32 → Int32 → Int32 → wg_M → Option (Int32 × wg_M)) (x2 : Int32) (x3 : Int32) (x4 : Int32) (σ : wg_M) (v2 : Int32) : q_X3_run_32__3 k5 x2 x3 x4 σ v2 = f_X3_run_74 k5 26 x2 x3 x4 v2 x3 33 σ := rfl
theorem e_X3_run_32 (k5 : Nat → Int32 → Int32 → Int32 → wg_M → Option (Int32 × wg_M)) (x2 : Int32) (x3 : Int32) (x4 : Int32) (x5 : Int32) (σ : wg_M) : f_X3_run_32 k5 26 x2 x3 x4 x5 σ = if (Int32.ofNat 32) ≤ x3 then (f_X3_run_191 k5 26 x2 x3 x4 σ) else (if x5 = (2 : Int32) then (wg_ga 400 (σ 28) x4 (q_X3_run_32__1 k5 x2 x3 x4 σ)) else (wg_ga 400 (σ 28) x4 (q_X3_run_32__2 k5 x2 x3 x4 σ))) := by
  unfold f_X3_run_32
  simp only [sc_n28, sc_n32, sc_n33, sc_r26_1, sc_r26_7, sc_r26_8]
  rfl
def q_X3_run_5__15 (n : Nat) (x2 : Int32) (x4 : Int32) (v3 : Int32) (s8 : wg_M) : Option (Int32 × wg_M) := f_X3_run_191 (f_X3_run_5  n) 26 x2 v3 x4 s8
def q_X3_run_5__14 (n : Nat) (x2 : Int32) (x4 : Int32) (v3 : Int32) (v6 : Int32) (s7 : wg_M) : Option (Int32 × wg_M) := wg_sa 32 s7 33 (v3 - (1 : Int32)) v6 (q_X3_run_5__15 n x2 x4 v3)
def q_X3_run_5__13 (n : Nat) (x2 : Int32) (x4 : Int32) (σ : wg_M) (v2 : Int32) (v3 : Int32) (v4 : Int32) (v5 : Int32) : Option (Int32 × wg_M) := wg_bd (f_X3_joined v2 v4 v5 σ) (q_X3_run_5__14 n x2 x4 v3)
def q_X3_run_5__12 (n : Nat) (x2 : Int32) (x4 : Int32) (σ : wg_M) (v2 : Int32) (v3 : Int32) (v4 : Int32) : Option (Int32 × wg_M) := wg_ga 32 (σ 33) v3 (q_X3_run_5__13 n x2 x4 σ v2 v3 v4)
def q_X3_run_5__11 (n : Nat) (x2 : Int32) (x4 : Int32) (σ : wg_M) (v2 : Int32) (v3 : Int32) : Option (Int32 × wg_M) := wg_ga 32 (σ 33) (v3 - (1 : Int32)) (q_X3_run_5__12 n x2 x4 σ v2 v3)
def q_X3_run_5__10 (n : Nat) (x2 : Int32) (x3 : Int32) (x4 : Int32) (s14 : wg_M) : Option (Int32 × wg_M) := f_X3_run_191 (f_X3_run_5  n) 26 x2 x3 x4 s14
def q_X3_run_5__9 (n : Nat) (x2 : Int32) (x3 : Int32) (x4 : Int32) (σ : wg_M) (v10 : Int32) (v13 : Int32) : Option (Int32 × wg_M) := wg_sa 32 σ 33 v10 v13 (q_X3_run_5__10 n x2 x3 x4)
def q_X3_run_5__8 (n : Nat) (x2 : Int32) (x3 : Int32) (x4 : Int32) (σ : wg_M) (v10 : Int32) (v11 : Int32) (v12 : Int32) : Option (Int32 × wg_M) := wg_dv v11 v12 (q_X3_run_5__9 n x2 x3 x4 σ v10)
def q_X3_run_5__7 (n : Nat) (x2 : Int32) (x3 : Int32) (x4 : Int32) (σ : wg_M) (v10 : Int32) (v11 : Int32) : Option (Int32 × wg_M) := wg_ga 400 (σ 28) x4 (q_X3_run_5__8 n x2 x3 x4 σ v10 v11)
def q_X3_run_5__6 (n : Nat) (x2 : Int32) (x3 : Int32) (x4 : Int32) (σ : wg_M) (v10 : Int32) : Option (Int32 × wg_M) := wg_ga 32 (σ 33) v10 (q_X3_run_5__7 n x2 x3 x4 σ v10)
def q_X3_run_5__5 (n : Nat) (x2 : Int32) (x3 : Int32) (x4 : Int32) (σ : wg_M) (v9 : Int32) : Option (Int32 × wg_M) := if v9 = 0 then (f_X3_run_191 (f_X3_run_5  n) 26 x2 x3 x4 σ) else (wg_let (x3 - (1 : Int32)) (q_X3_run_5__6 n x2 x3 x4 σ))
def q_X3_run_5__4 (n : Nat) (x2 : Int32) (x3 : Int32) (x4 : Int32) (s16 : wg_M) : Option (Int32 × wg_M) := f_X3_run_191 (f_X3_run_5  n) 26 x2 x3 x4 s16
def q_X3_run_5__3 (n : Nat) (x2 : Int32) (x3 : Int32) (x4 : Int32) (σ : wg_M) (v15 : Int32) : Option (Int32 × wg_M) := wg_sa 32 σ 33 (x3 - (1 : Int32)) ((1 : Int32) - v15) (q_X3_run_5__4 n x2 x3 x4)
def q_X3_run_5__2 (n : Nat) (x2 : Int32) (x3 : Int32) (x4 : Int32) (σ : wg_M) (v2 : Int32) : Option (Int32 × wg_M) := if v2 = (2 : Int32) then (f_X3_run_32 (f_X3_run_5  n) 26 x2 x3 x4 v2 σ) else (if v2 = (3 : Int32) then (f_X3_run_32 (f_X3_run_5  n) 26 x2 x3 x4 v2 σ) else (if v2 = (272 : Int32) then (if x3 ≤ 0 then (f_X3_run_191 (f_X3_run_5  n) 26 x2 x3 x4 σ) else (wg_ga 32 (σ 33) (x3 - (1 : Int32)) (q_X3_run_5__3 n x2 x3 x4 σ))) else (if v2 = (47 : Int32) then (if x3 ≤ 0 then (f_X3_run_191 (f_X3_run_5  n) 26 x2 x3 x4 σ) else (wg_ga 400 (σ 28) x4 (q_X3_run_5__5 n x2 x3 x4 σ))) else (if x3 ≤ (1 : Int32) then (f_X3_run_191 (f_X3_run_5  n) 26 x2 x3 x4 σ) else (wg_let (x3 + (-1 : Int32)) (q_X3_run_5__11 n x2 x4 σ v2))))))
def q_X3_run_5__1 (σ : wg_M) (v1 : Int32) : Option (Int32 × wg_M) := some (v1, σ)
theorem e_X3_run_5__1 (σ : wg_M) (v1 : Int32) : q_X3_run_5__1 σ v1 = some (v1, σ) := rfl
theorem e_X3_run_5__2 (n : Nat) (x2 : Int32) (x3 : Int32) (x4 : Int32) (σ : wg_M) (v2 : Int32) : q_X3_run_5__2 n x2 x3 x4 σ v2 = if v2 = (2 : Int32) then (f_X3_run_32 (f_X3_run_5  n) 26 x2 x3 x4 v2 σ) else (if v2 = (3 : Int32) then (f_X3_run_32 (f_X3_run_5  n) 26 x2 x3 x4 v2 σ) else (if v2 = (272 : Int32) then (if x3 ≤ 0 then (f_X3_run_191 (f_X3_run_5  n) 26 x2 x3 x4 σ) else (wg_ga 32 (σ 33) (x3 - (1 : Int32)) (q_X3_run_5__3 n x2 x3 x4 σ))) else (if v2 = (47 : Int32) then (if x3 ≤ 0 then (f_X3_run_191 (f_X3_run_5  n) 26 x2 x3 x4 σ) else (wg_ga 400 (σ 28) x4 (q_X3_run_5__5 n x2 x3 x4 σ))) else (if x3 ≤ (1 : Int32) then (f_X3_run_191 (f_X3_run_5  n) 26 x2 x3 x4 σ) else (wg_let (x3 + (-1 : Int32)) (q_X3_run_5__11 n x2 x4 σ v2)))))) := rfl
theorem e_X3_run_5__3 (n : Nat) (x2 : Int32) (x3 : Int32) (x4 : Int32) (σ : wg_M) (v15 : Int32) : q_X3_run_5__3 n x2 x3 x4 σ v15 = wg_sa 32 σ 33 (x3 - (1 : Int32)) ((1 : Int32) - v15) (q_X3_run_5__4 n x2 x3 x4) := rfl
theorem e_X3_run_5__4 (n : Nat) (x2 : Int32) (x3 : Int32) (x4 : Int32) (s16 : wg_M) : q_X3_run_5__4 n x2 x3 x4 s16 = f_X3_run_191 (f_X3_run_5  n) 26 x2 x3 x4 s16 := rfl
theorem e_X3_run_5__5 (n : Nat) (x2 : Int32) (x3 : Int32) (x4 : Int32) (σ : wg_M) (v9 : Int32) : q_X3_run_5__5 n x2 x3 x4 σ v9 = if v9 = 0 then (f_X3_run_191 (f_X3_run_5  n) 26 x2 x3 x4 σ) else (wg_let (x3 - (1 : Int32)) (q_X3_run_5__6 n x2 x3 x4 σ)) := rfl
theorem e_X3_run_5__6 (n : Nat) (x2 : Int32) (x3 : Int32) (x4 : Int32) (σ : wg_M) (v10 : Int32) : q_X3_run_5__6 n x2 x3 x4 σ v10 = wg_ga 32 (σ 33) v10 (q_X3_run_5__7 n x2 x3 x4 σ v10) := rfl
theorem e_X3_run_5__7 (n : Nat) (x2 : Int32) (x3 : Int32) (x4 : Int32) (σ : wg_M) (v10 : Int32) (v11 : Int32) : q_X3_run_5__7 n x2 x3 x4 σ v10 v11 = wg_ga 400 (σ 28) x4 (q_X3_run_5__8 n x2 x3 x4 σ v10 v11) := rfl
theorem e_X3_run_5__8 (n : Nat) (x2 : Int32) (x3 : Int32) (x4 : Int32) (σ : wg_M) (v10 : Int32) (v11 : Int32) (v12 : Int32) : q_X3_run_5__8 n x2 x3 x4 σ v10 v11 v12 = wg_dv v11 v12 (q_X3_run_5__9 n x2 x3 x4 σ v10) := rfl
theorem e_X3_run_5__9 (n : Nat) (x2 : Int32) (x3 : Int32) (x4 : Int32) (σ : wg_M) (v10 : Int32) (v13 : Int32) : q_X3_run_5__9 n x2 x3 x4 σ v10 v13 = wg_sa 32 σ 33 v10 v13 (q_X3_run_5__10 n x2 x3 x4) := rfl
theorem e_X3_run_5__10 (n : Nat) (x2 : Int32) (x3 : Int32) (x4 : Int32) (s14 : wg_M) : q_X3_run_5__10 n x2 x3 x4 s14 = f_X3_run_191 (f_X3_run_5  n) 26 x2 x3 x4 s14 := rfl
theorem e_X3_run_5__11 (n : Nat) (x2 : Int32) (x4 : Int32) (σ : wg_M) (v2 : Int32) (v3 : Int32) : q_X3_run_5__11 n x2 x4 σ v2 v3 = wg_ga 32 (σ 33) (v3 - (1 : Int32)) (q_X3_run_5__12 n x2 x4 σ v2 v3) := rfl
theorem e_X3_run_5__12 (n : Nat) (x2 : Int32) (x4 : Int32) (σ : wg_M) (v2 : Int32) (v3 : Int32) (v4 : Int32) : q_X3_run_5__12 n x2 x4 σ v2 v3 v4 = wg_ga 32 (σ 33) v3 (q_X3_run_5__13 n x2 x4 σ v2 v3 v4) := rfl
theorem e_X3_run_5__13 (n : Nat) (x2 : Int32) (x4 : Int32) (σ : wg_M) (v2 : Int32) (v3 : Int32) (v4 : Int32) (v5 : Int32) : q_X3_run_5__13 n x2 x4 σ v2 v3 v4 v5 = wg_bd (f_X3_joined v2 v4 v5 σ) (q_X3_run_5__14 n x2 x4 v3) := rfl
theorem e_X3_run_5__14 (n : Nat) (x2 : Int32) (x4 : Int32) (v3 : Int32) (v6 : Int32) (s7 : wg_M) : q_X3_run_5__14 n x2 x4 v3 v6 s7 = wg_sa 32 s7 33 (v3 - (1 : Int32)) v6 (q_X3_run_5__15 n x2 x4 v3) := rfl
theorem e_X3_run_5__15 (n : Nat) (x2 : Int32) (x4 : Int32) (v3 : Int32) (s8 : wg_M) : q_X3_run_5__15 n x2 x4 v3 s8 = f_X3_run_191 (f_X3_run_5  n) 26 x2 v3 x4 s8 := rfl
theorem e_X3_run_5 (n : Nat) (x2 : Int32) (x3 : Int32) (x4 : Int32) (σ : wg_M) : f_X3_run_5 (n + 1) 26 x2 x3 x4 σ = if x2 ≤ x4 then (wg_ga 32 (σ 33) (0 : Int32) (q_X3_run_5__1 σ)) else (wg_ga 400 (σ 27) x4 (q_X3_run_5__2 n x2 x3 x4 σ)) := by
  rw [f_X3_run_5]
  simp only [sc_n27, sc_n28, sc_n33, sc_r26_0, sc_r26_1, sc_r26_8]
  rfl
theorem e_X3_run (x1 : Int32) (x2 : Int32) (σ : wg_M) : f_X3_run 26 x1 x2 σ = f_X3_run_5  wg_N 26 x2 (0 : Int32) x1 σ := rfl
def q_X3_tell_68__4 (v4 : Int32) (s5 : wg_M) : Option (Int32 × wg_M) := some (v4, s5)
def q_X3_tell_68__3 (x3 : Int32) (σ : wg_M) (v3 : Int32) : Option (Int32 × wg_M) := wg_bd (f_X3_run 26 x3 v3 σ) q_X3_tell_68__4
def q_X3_tell_68__2 (k5 : Nat → Int32 → Int32 → Int32 → Int32 → wg_M → Option (Int32 × wg_M)) (x1 : Int32) (x2 : Int32) (σ : wg_M) (v1 : Int32) (v2 : Int32) : Option (Int32 × wg_M) := k5 26 x1 x2 v1 v2 σ
def q_X3_tell_68__1 (k5 : Nat → Int32 → Int32 → Int32 → Int32 → wg_M → Option (Int32 × wg_M)) (x1 : Int32) (x2 : Int32) (x4 : Int32) (σ : wg_M) (v1 : Int32) : Option (Int32 × wg_M) := wg_let (x4 + (1 : Int32)) (q_X3_tell_68__2 k5 x1 x2 σ v1)
theorem e_X3_tell_68__1 (k5 : Nat → Int32 → Int32 → Int32 → Int32 → wg_M → Option (Int32 × wg_M)) (x1 : Int32) (x2 : Int32) (x4 : Int32) (σ : wg_M) (v1 : Int32) : q_X3_tell_68__1 k5 x1 x2 x4 σ v1 = wg_let (x4 + (1 : Int32)) (q_X3_tell_68__2 k5 x1 x2 σ v1) := rfl
theorem e_X3_tell_68__2 (k5 : Nat → Int32 → Int32 → Int32 → Int32 → wg_M → Option (Int32 × wg_M)) (x1 : Int32) (x2 : Int32) (σ : wg_M) (v1 : Int32) (v2 : Int32) : q_X3_tell_68__2 k5 x1 x2 σ v1 v2 = k5 26 x1 x2 v1 v2 σ := rfl
theorem e_X3_tell_68__3 (x3 : Int32) (σ : wg_M) (v3 : Int32) : q_X3_tell_68__3 x3 σ v3 = wg_bd (f_X3_run 26 x3 v3 σ) q_X3_tell_68__4 := rfl
theorem e_X3_tell_68__4 (v4 : Int32) (s5 : wg_M) : q_X3_tell_68__4 v4 s5 = some (v4, s5) := rfl
theorem e_X3_tell_68 (k5 : Nat → Int32 → Int32 → Int32 → Int32 → wg_M → Option (Int32 × wg_M)) (x1 : Int32) (x2 : Int32) (x3 : Int32) (x4 : Int32) (t0 : Int32) (σ : wg_M) : f_X3_tell_68 k5 26 x1 x2 x3 x4 t0 σ = if t0 = 0 then (wg_ga 16 (σ 31) x4 (q_X3_tell_68__1 k5 x1 x2 x4 σ)) else (wg_ga 16 (σ 30) x4 (q_X3_tell_68__3 x3 σ)) := by
  unfold f_X3_tell_68
  simp only [sc_n30, sc_n31, sc_r26_4, sc_r26_5]
  rfl
theorem e_X3_tell_67 (k5 : Nat → Int32 → Int32 → Int32 → Int32 → wg_M → Option (Int32 × wg_M)) (x1 : Int32) (x2 : Int32) (x3 : Int32) (x4 : Int32) (σ : wg_M) : f_X3_tell_67 k5 26 x1 x2 x3 x4 σ = f_X3_tell_68 k5 26 x1 x2 x3 x4 (0 : Int32) σ := rfl
theorem e_X3_tell_63 (k5 : Nat → Int32 → Int32 → Int32 → Int32 → wg_M → Option (Int32 × wg_M)) (x1 : Int32) (x2 : Int32) (x3 : Int32) (x4 : Int32) (σ : wg_M) : f_X3_tell_63 k5 26 x1 x2 x3 x4 σ = f_X3_tell_68 k5 26 x1 x2 x3 x4 (1 : Int32) σ := rfl
def q_X3_tell_5__6 (n : Nat) (x1 : Int32) (x2 : Int32) (x3 : Int32) (x4 : Int32) (v6 : Int32) (s7 : wg_M) : Option (Int32 × wg_M) := if v6 = 0 then (f_X3_tell_67 (f_X3_tell_5  n) 26 x1 x2 x3 x4 s7) else (f_X3_tell_63 (f_X3_tell_5  n) 26 x1 x2 x3 x4 s7)
def q_X3_tell_5__5 (n : Nat) (x1 : Int32) (x2 : Int32) (x3 : Int32) (x4 : Int32) (σ : wg_M) (v4 : Int32) (v5 : Int32) : Option (Int32 × wg_M) := wg_bd (f_X3_run 26 v4 v5 σ) (q_X3_tell_5__6 n x1 x2 x3 x4)
def q_X3_tell_5__4 (n : Nat) (x1 : Int32) (x2 : Int32) (x3 : Int32) (x4 : Int32) (σ : wg_M) (v4 : Int32) : Option (Int32 × wg_M) := wg_ga 16 (σ 31) x4 (q_X3_tell_5__5 n x1 x2 x3 x4 σ v4)
def q_X3_tell_5__3 (n : Nat) (x1 : Int32) (x2 : Int32) (x3 : Int32) (x4 : Int32) (σ : wg_M) (v2 : Int32) (v3 : Int32) : Option (Int32 × wg_M) := if v2 = v3 then (f_X3_tell_63 (f_X3_tell_5  n) 26 x1 x2 x3 x4 σ) else (wg_ga 16 (σ 30) x4 (q_X3_tell_5__4 n x1 x2 x3 x4 σ))
def q_X3_tell_5__2 (n : Nat) (x1 : Int32) (x2 : Int32) (x3 : Int32) (x4 : Int32) (σ : wg_M) (v2 : Int32) : Option (Int32 × wg_M) := wg_ga 16 (σ 31) x4 (q_X3_tell_5__3 n x1 x2 x3 x4 σ v2)
def q_X3_tell_5__1 (n : Nat) (x1 : Int32) (x2 : Int32) (x3 : Int32) (x4 : Int32) (σ : wg_M) (v1 : Int32) : Option (Int32 × wg_M) := if v1 = x1 then (wg_ga 16 (σ 30) x4 (q_X3_tell_5__2 n x1 x2 x3 x4 σ)) else (f_X3_tell_67 (f_X3_tell_5  n) 26 x1 x2 x3 x4 σ)
theorem e_X3_tell_5__1 (n : Nat) (x1 : Int32) (x2 : Int32) (x3 : Int32) (x4 : Int32) (σ : wg_M) (v1 : Int32) : q_X3_tell_5__1 n x1 x2 x3 x4 σ v1 = if v1 = x1 then (wg_ga 16 (σ 30) x4 (q_X3_tell_5__2 n x1 x2 x3 x4 σ)) else (f_X3_tell_67 (f_X3_tell_5  n) 26 x1 x2 x3 x4 σ) := rfl
theorem e_X3_tell_5__2 (n : Nat) (x1 : Int32) (x2 : Int32) (x3 : Int32) (x4 : Int32) (σ : wg_M) (v2 : Int32) : q_X3_tell_5__2 n x1 x2 x3 x4 σ v2 = wg_ga 16 (σ 31) x4 (q_X3_tell_5__3 n x1 x2 x3 x4 σ v2) := rfl
theorem e_X3_tell_5__3 (n : Nat) (x1 : Int32) (x2 : Int32) (x3 : Int32) (x4 : Int32) (σ : wg_M) (v2 : Int32) (v3 : Int32) : q_X3_tell_5__3 n x1 x2 x3 x4 σ v2 v3 = if v2 = v3 then (f_X3_tell_63 (f_X3_tell_5  n) 26 x1 x2 x3 x4 σ) else (wg_ga 16 (σ 30) x4 (q_X3_tell_5__4 n x1 x2 x3 x4 σ)) := rfl
theorem e_X3_tell_5__4 (n : Nat) (x1 : Int32) (x2 : Int32) (x3 : Int32) (x4 : Int32) (σ : wg_M) (v4 : Int32) : q_X3_tell_5__4 n x1 x2 x3 x4 σ v4 = wg_ga 16 (σ 31) x4 (q_X3_tell_5__5 n x1 x2 x3 x4 σ v4) := rfl
theorem e_X3_tell_5__5 (n : Nat) (x1 : Int32) (x2 : Int32) (x3 : Int32) (x4 : Int32) (σ : wg_M) (v4 : Int32) (v5 : Int32) : q_X3_tell_5__5 n x1 x2 x3 x4 σ v4 v5 = wg_bd (f_X3_run 26 v4 v5 σ) (q_X3_tell_5__6 n x1 x2 x3 x4) := rfl
theorem e_X3_tell_5__6 (n : Nat) (x1 : Int32) (x2 : Int32) (x3 : Int32) (x4 : Int32) (v6 : Int32) (s7 : wg_M) : q_X3_tell_5__6 n x1 x2 x3 x4 v6 s7 = if v6 = 0 then (f_X3_tell_67 (f_X3_tell_5  n) 26 x1 x2 x3 x4 s7) else (f_X3_tell_63 (f_X3_tell_5  n) 26 x1 x2 x3 x4 s7) := rfl
theorem e_X3_tell_5 (n : Nat) (x1 : Int32) (x2 : Int32) (x3 : Int32) (x4 : Int32) (σ : wg_M) : f_X3_tell_5 (n + 1) 26 x1 x2 x3 x4 σ = if (σ 26 6) ≤ x4 then (some (x2, σ)) else (wg_ga 16 (σ 29) x4 (q_X3_tell_5__1 n x1 x2 x3 x4 σ)) := by
  rw [f_X3_tell_5]
  simp only [sc_n29, sc_n30, sc_n31, sc_r26_3, sc_r26_4, sc_r26_5]
  rfl
theorem e_X3_tell (x1 : Int32) (x2 : Int32) (σ : wg_M) : f_X3_tell 26 x1 x2 σ = f_X3_tell_5  wg_N 26 x1 x2 (0 : Int32) (0 : Int32) σ := rfl
def q_X11_held__2 (v3 : Int32) (s4 : wg_M) : Option (Int32 × wg_M) := some (v3, s4)
def q_X11_held__1 (x1 : Int32) (v1 : Int32) (s2 : wg_M) : Option (Int32 × wg_M) := wg_bd (f_J9_max_7cf53 x1 v1 s2) q_X11_held__2
theorem e_X11_held__1 (x1 : Int32) (v1 : Int32) (s2 : wg_M) : q_X11_held__1 x1 v1 s2 = wg_bd (f_J9_max_7cf53 x1 v1 s2) q_X11_held__2 := rfl
theorem e_X11_held__2 (v3 : Int32) (s4 : wg_M) : q_X11_held__2 v3 s4 = some (v3, s4) := rfl
theorem e_X11_held (x0 : Int32) (x1 : Int32) (x2 : Int32) (σ : wg_M) : f_X11_held x0 x1 x2 σ = wg_bd (f_J9_min_7cf53 x2 x0 σ) (q_X11_held__1 x1) := rfl
def q_X1_countsOf__11 (v12 : Int32) (s13 : wg_M) : Option (Int32 × wg_M) := some (v12, s13)
def q_X1_countsOf__10 (v10 : Int32) (s11 : wg_M) : Option (Int32 × wg_M) := wg_bd (f_X11_held v10 (0 : Int32) (99 : Int32) s11) q_X1_countsOf__11
def q_X1_countsOf__9 (s8 : wg_M) (v9 : Int32) : Option (Int32 × wg_M) := wg_bd (f_X3_tell 26 (266 : Int32) v9 s8) q_X1_countsOf__10
def q_X1_countsOf__8 (v1 : Int32) (s8 : wg_M) : Option (Int32 × wg_M) := wg_ga 64 (s8 10) v1 (q_X1_countsOf__9 s8)
def q_X1_countsOf__7 (v1 : Int32) (s6 : wg_M) (v7 : Int32) : Option (Int32 × wg_M) := wg_sa 10 s6 32 (7 : Int32) v7 (q_X1_countsOf__8 v1)
def q_X1_countsOf__6 (v1 : Int32) (s6 : wg_M) : Option (Int32 × wg_M) := wg_ga 64 (s6 10) v1 (q_X1_countsOf__7 v1 s6)
def q_X1_countsOf__5 (v1 : Int32) (s4 : wg_M) (v5 : Int32) : Option (Int32 × wg_M) := wg_sa 10 s4 32 (6 : Int32) v5 (q_X1_countsOf__6 v1)
def q_X1_countsOf__4 (v1 : Int32) (_u4 : Int32) (s4 : wg_M) : Option (Int32 × wg_M) := wg_ga 64 (s4 8) v1 (q_X1_countsOf__5 v1 s4)
def q_X1_countsOf__3 (x1 : Int32) (v1 : Int32) (_u3 : Int32) (s3 : wg_M) : Option (Int32 × wg_M) := wg_bd (f_X1_askWig 279 x1 s3) (q_X1_countsOf__4 v1)
def q_X1_countsOf__2 (x1 : Int32) (x3 : Int32) (v1 : Int32) (_u2 : Int32) (s2 : wg_M) : Option (Int32 × wg_M) := wg_bd (f_X1_askJudge 279 x3 s2) (q_X1_countsOf__3 x1 v1)
def q_X1_countsOf__1 (x1 : Int32) (x3 : Int32) (σ : wg_M) (v1 : Int32) : Option (Int32 × wg_M) := wg_bd (f_X1_askNobody 279 σ) (q_X1_countsOf__2 x1 x3 v1)
theorem e_X1_countsOf__1 (x1 : Int32) (x3 : Int32) (σ : wg_M) (v1 : Int32) : q_X1_countsOf__1 x1 x3 σ v1 = wg_bd (f_X1_askNobody 279 σ) (q_X1_countsOf__2 x1 x3 v1) := rfl
theorem e_X1_countsOf__2 (x1 : Int32) (x3 : Int32) (v1 : Int32) (_u2 : Int32) (s2 : wg_M) : q_X1_countsOf__2 x1 x3 v1 _u2 s2 = wg_bd (f_X1_askJudge 279 x3 s2) (q_X1_countsOf__3 x1 v1) := rfl
theorem e_X1_countsOf__3 (x1 : Int32) (v1 : Int32) (_u3 : Int32) (s3 : wg_M) : q_X1_countsOf__3 x1 v1 _u3 s3 = wg_bd (f_X1_askWig 279 x1 s3) (q_X1_countsOf__4 v1) := rfl
theorem e_X1_countsOf__4 (v1 : Int32) (_u4 : Int32) (s4 : wg_M) : q_X1_countsOf__4 v1 _u4 s4 = wg_ga 64 (s4 8) v1 (q_X1_countsOf__5 v1 s4) := rfl
theorem e_X1_countsOf__5 (v1 : Int32) (s4 : wg_M) (v5 : Int32) : q_X1_countsOf__5 v1 s4 v5 = wg_sa 10 s4 32 (6 : Int32) v5 (q_X1_countsOf__6 v1) := rfl
theorem e_X1_countsOf__6 (v1 : Int32) (s6 : wg_M) : q_X1_countsOf__6 v1 s6 = wg_ga 64 (s6 10) v1 (q_X1_countsOf__7 v1 s6) := rfl
theorem e_X1_countsOf__7 (v1 : Int32) (s6 : wg_M) (v7 : Int32) : q_X1_countsOf__7 v1 s6 v7 = wg_sa 10 s6 32 (7 : Int32) v7 (q_X1_countsOf__8 v1) := rfl
theorem e_X1_countsOf__8 (v1 : Int32) (s8 : wg_M) : q_X1_countsOf__8 v1 s8 = wg_ga 64 (s8 10) v1 (q_X1_countsOf__9 s8) := rfl
theorem e_X1_countsOf__9 (s8 : wg_M) (v9 : Int32) : q_X1_countsOf__9 s8 v9 = wg_bd (f_X3_tell 26 (266 : Int32) v9 s8) q_X1_countsOf__10 := rfl
theorem e_X1_countsOf__10 (v10 : Int32) (s11 : wg_M) : q_X1_countsOf__10 v10 s11 = wg_bd (f_X11_held v10 (0 : Int32) (99 : Int32) s11) q_X1_countsOf__11 := rfl
theorem e_X1_countsOf__11 (v12 : Int32) (s13 : wg_M) : q_X1_countsOf__11 v12 s13 = some (v12, s13) := rfl
theorem e_X1_countsOf (x1 : Int32) (x2 : Int32) (x3 : Int32) (σ : wg_M) : f_X1_countsOf 279 x1 x2 x3 σ = wg_let ((x1 * (8 : Int32)) + x2) (q_X1_countsOf__1 x1 x3 σ) := by
  unfold f_X1_countsOf
  simp only [sc_n8, sc_n10, sc_n32, sc_r2_5, sc_r2_7, sc_r26_7, sc_r279_2, sc_r279_4]
  rfl
def q_X1_mothOf__6 (v7 : Int32) (s8 : wg_M) : Option (Int32 × wg_M) := some (v7, s8)
def q_X1_mothOf__5 (v5 : Int32) (s6 : wg_M) : Option (Int32 × wg_M) := wg_bd (f_X11_held v5 (0 : Int32) (99 : Int32) s6) q_X1_mothOf__6
def q_X1_mothOf__4 (s2 : wg_M) (v4 : Int32) : Option (Int32 × wg_M) := wg_bd (f_X3_tell 26 (267 : Int32) ((1 : Int32) + v4) s2) q_X1_mothOf__5
def q_X1_mothOf__3 (s2 : wg_M) (v3 : Int32) : Option (Int32 × wg_M) := wg_dv v3 (9 : Int32) (q_X1_mothOf__4 s2)
def q_X1_mothOf__2 (x1 : Int32) (_u2 : Int32) (s2 : wg_M) : Option (Int32 × wg_M) := wg_ga 8 (s2 5) x1 (q_X1_mothOf__3 s2)
def q_X1_mothOf__1 (x1 : Int32) (_u1 : Int32) (s1 : wg_M) : Option (Int32 × wg_M) := wg_bd (f_X1_askWig 279 x1 s1) (q_X1_mothOf__2 x1)
theorem e_X1_mothOf__1 (x1 : Int32) (_u1 : Int32) (s1 : wg_M) : q_X1_mothOf__1 x1 _u1 s1 = wg_bd (f_X1_askWig 279 x1 s1) (q_X1_mothOf__2 x1) := rfl
theorem e_X1_mothOf__2 (x1 : Int32) (_u2 : Int32) (s2 : wg_M) : q_X1_mothOf__2 x1 _u2 s2 = wg_ga 8 (s2 5) x1 (q_X1_mothOf__3 s2) := rfl
theorem e_X1_mothOf__3 (s2 : wg_M) (v3 : Int32) : q_X1_mothOf__3 s2 v3 = wg_dv v3 (9 : Int32) (q_X1_mothOf__4 s2) := rfl
theorem e_X1_mothOf__4 (s2 : wg_M) (v4 : Int32) : q_X1_mothOf__4 s2 v4 = wg_bd (f_X3_tell 26 (267 : Int32) ((1 : Int32) + v4) s2) q_X1_mothOf__5 := rfl
theorem e_X1_mothOf__5 (v5 : Int32) (s6 : wg_M) : q_X1_mothOf__5 v5 s6 = wg_bd (f_X11_held v5 (0 : Int32) (99 : Int32) s6) q_X1_mothOf__6 := rfl
theorem e_X1_mothOf__6 (v7 : Int32) (s8 : wg_M) : q_X1_mothOf__6 v7 s8 = some (v7, s8) := rfl
theorem e_X1_mothOf (x1 : Int32) (σ : wg_M) : f_X1_mothOf 279 x1 σ = wg_bd (f_X1_askNobody 279 σ) (q_X1_mothOf__1 x1) := by
  unfold f_X1_mothOf
  simp only [sc_n5, sc_r2_2, sc_r279_2, sc_r279_4]
  rfl
theorem e_X9_has (x1 : Int32) (σ : wg_M) : f_X9_has 2 x1 σ = if x1 < 0 then (some ((0 : Int32), σ)) else (if (σ 2 8) ≤ x1 then (some ((0 : Int32), σ)) else (some ((1 : Int32), σ))) := rfl
def q_X1_diesOf_41__4 (v6 : Int32) (s7 : wg_M) : Option (Int32 × wg_M) := some (v6, s7)
def q_X1_diesOf_41__3 (v4 : Int32) (s5 : wg_M) : Option (Int32 × wg_M) := wg_bd (f_X11_held v4 (0 : Int32) (1000 : Int32) s5) q_X1_diesOf_41__4
def q_X1_diesOf_41__2 (v2 : Int32) (s3 : wg_M) : Option (Int32 × wg_M) := wg_bd (f_X3_tell 26 (268 : Int32) (v2 * (9 : Int32)) s3) q_X1_diesOf_41__3
def q_X1_diesOf_41__1 (σ : wg_M) (v1 : Int32) : Option (Int32 × wg_M) := wg_bd (f_J9_max_7cf53 (0 : Int32) (v1 - (60 : Int32)) σ) q_X1_diesOf_41__2
theorem e_X1_diesOf_41__1 (σ : wg_M) (v1 : Int32) : q_X1_diesOf_41__1 σ v1 = wg_bd (f_J9_max_7cf53 (0 : Int32) (v1 - (60 : Int32)) σ) q_X1_diesOf_41__2 := rfl
theorem e_X1_diesOf_41__2 (v2 : Int32) (s3 : wg_M) : q_X1_diesOf_41__2 v2 s3 = wg_bd (f_X3_tell 26 (268 : Int32) (v2 * (9 : Int32)) s3) q_X1_diesOf_41__3 := rfl
theorem e_X1_diesOf_41__3 (v4 : Int32) (s5 : wg_M) : q_X1_diesOf_41__3 v4 s5 = wg_bd (f_X11_held v4 (0 : Int32) (1000 : Int32) s5) q_X1_diesOf_41__4 := rfl
theorem e_X1_diesOf_41__4 (v6 : Int32) (s7 : wg_M) : q_X1_diesOf_41__4 v6 s7 = some (v6, s7) := rfl
theorem e_X1_diesOf_41 (x1 : Int32) (σ : wg_M) : f_X1_diesOf_41 279 x1 σ = wg_ga 10 (σ 12) x1 (q_X1_diesOf_41__1 σ) := by
  unfold f_X1_diesOf_41
  simp only [sc_n12, sc_r11_0, sc_r279_3, sc_r279_4]
  rfl
def q_X1_diesOf__6 (x1 : Int32) (_u6 : Int32) (s7 : wg_M) : Option (Int32 × wg_M) := f_X1_diesOf_41  279 x1 s7
def q_X1_diesOf__5 (x1 : Int32) (s5 : wg_M) (v6 : Int32) : Option (Int32 × wg_M) := wg_bd (f_X1_askWig 279 v6 s5) (q_X1_diesOf__6 x1)
def q_X1_diesOf__4 (x1 : Int32) (v4 : Int32) (s5 : wg_M) : Option (Int32 × wg_M) := if v4 = 0 then (f_X1_diesOf_41  279 x1 s5) else (wg_ga 10 (s5 14) x1 (q_X1_diesOf__5 x1 s5))
def q_X1_diesOf__3 (x1 : Int32) (s2 : wg_M) (v3 : Int32) : Option (Int32 × wg_M) := wg_bd (f_X9_has 2 v3 s2) (q_X1_diesOf__4 x1)
def q_X1_diesOf__2 (x1 : Int32) (_u2 : Int32) (s2 : wg_M) : Option (Int32 × wg_M) := wg_ga 10 (s2 14) x1 (q_X1_diesOf__3 x1 s2)
def q_X1_diesOf__1 (x1 : Int32) (_u1 : Int32) (s1 : wg_M) : Option (Int32 × wg_M) := wg_bd (f_X1_askJudge 279 x1 s1) (q_X1_diesOf__2 x1)
theorem e_X1_diesOf__1 (x1 : Int32) (_u1 : Int32) (s1 : wg_M) : q_X1_diesOf__1 x1 _u1 s1 = wg_bd (f_X1_askJudge 279 x1 s1) (q_X1_diesOf__2 x1) := rfl
theorem e_X1_diesOf__2 (x1 : Int32) (_u2 : Int32) (s2 : wg_M) : q_X1_diesOf__2 x1 _u2 s2 = wg_ga 10 (s2 14) x1 (q_X1_diesOf__3 x1 s2) := rfl
theorem e_X1_diesOf__3 (x1 : Int32) (s2 : wg_M) (v3 : Int32) : q_X1_diesOf__3 x1 s2 v3 = wg_bd (f_X9_has 2 v3 s2) (q_X1_diesOf__4 x1) := rfl
theorem e_X1_diesOf__4 (x1 : Int32) (v4 : Int32) (s5 : wg_M) : q_X1_diesOf__4 x1 v4 s5 = if v4 = 0 then (f_X1_diesOf_41  279 x1 s5) else (wg_ga 10 (s5 14) x1 (q_X1_diesOf__5 x1 s5)) := rfl
theorem e_X1_diesOf__5 (x1 : Int32) (s5 : wg_M) (v6 : Int32) : q_X1_diesOf__5 x1 s5 v6 = wg_bd (f_X1_askWig 279 v6 s5) (q_X1_diesOf__6 x1) := rfl
theorem e_X1_diesOf__6 (x1 : Int32) (_u6 : Int32) (s7 : wg_M) : q_X1_diesOf__6 x1 _u6 s7 = f_X1_diesOf_41  279 x1 s7 := rfl
theorem e_X1_diesOf (x1 : Int32) (σ : wg_M) : f_X1_diesOf 279 x1 σ = wg_bd (f_X1_askNobody 279 σ) (q_X1_diesOf__1 x1) := by
  unfold f_X1_diesOf
  simp only [sc_n14, sc_r11_2, sc_r279_2, sc_r279_3]
  rfl
def q_X1_verdictOf_131__1 (k64 : Nat → Int32 → Int32 → Int32 → Int32 → Int32 → Int32 → wg_M → Option (Int32 × wg_M)) (x1 : Int32) (x2 : Int32) (x3 : Int32) (x4 : Int32) (x5 : Int32) (σ : wg_M) (v1 : Int32) : Option (Int32 × wg_M) := k64 279 x1 x2 x3 x4 x5 v1 σ
theorem e_X1_verdictOf_131__1 (k64 : Nat → Int32 → Int32 → Int32 → Int32 → Int32 → Int32 → wg_M → Option (Int32 × wg_M)) (x1 : Int32) (x2 : Int32) (x3 : Int32) (x4 : Int32) (x5 : Int32) (σ : wg_M) (v1 : Int32) : q_X1_verdictOf_131__1 k64 x1 x2 x3 x4 x5 σ v1 = k64 279 x1 x2 x3 x4 x5 v1 σ := rfl
theorem e_X1_verdictOf_131 (k64 : Nat → Int32 → Int32 → Int32 → Int32 → Int32 → Int32 → wg_M → Option (Int32 × wg_M)) (x1 : Int32) (x2 : Int32) (x3 : Int32) (x4 : Int32) (x5 : Int32) (x6 : Int32) (σ : wg_M) : f_X1_verdictOf_131 k64 279 x1 x2 x3 x4 x5 x6 σ = wg_let (x6 + (1 : Int32)) (q_X1_verdictOf_131__1 k64 x1 x2 x3 x4 x5 σ) := rfl
def q_X1_verdictOf_64__8 (n : Nat) (x1 : Int32) (x2 : Int32) (x4 : Int32) (x5 : Int32) (x6 : Int32) (s10 : wg_M) (v11 : Int32) : Option (Int32 × wg_M) := f_X1_verdictOf_131 (f_X1_verdictOf_64  n) 279 x1 x2 v11 x4 x5 x6 s10
def q_X1_verdictOf_64__7 (n : Nat) (x1 : Int32) (x2 : Int32) (x3 : Int32) (x4 : Int32) (x5 : Int32) (x6 : Int32) (v9 : Int32) (s10 : wg_M) : Option (Int32 × wg_M) := wg_let (x3 + v9) (q_X1_verdictOf_64__8 n x1 x2 x4 x5 x6 s10)
def q_X1_verdictOf_64__6 (n : Nat) (x1 : Int32) (x2 : Int32) (x3 : Int32) (x4 : Int32) (x5 : Int32) (x6 : Int32) (v6 : Int32) (v7 : Int32) (s8 : wg_M) : Option (Int32 × wg_M) := wg_bd (f_J9_floorDiv_7cf53 (v6 * v7) (9 : Int32) s8) (q_X1_verdictOf_64__7 n x1 x2 x3 x4 x5 x6)
def q_X1_verdictOf_64__5 (n : Nat) (x1 : Int32) (x2 : Int32) (x3 : Int32) (x4 : Int32) (x5 : Int32) (x6 : Int32) (σ : wg_M) (v6 : Int32) : Option (Int32 × wg_M) := wg_bd (f_X1_countsOf 279 x4 x6 x2 σ) (q_X1_verdictOf_64__6 n x1 x2 x3 x4 x5 x6 v6)
def q_X1_verdictOf_64__4 (n : Nat) (x1 : Int32) (x2 : Int32) (x3 : Int32) (x4 : Int32) (x5 : Int32) (x6 : Int32) (σ : wg_M) (v3 : Int32) (v4 : Int32) (v5 : Int32) : Option (Int32 × wg_M) := if v4 = v5 then (wg_ga 64 (σ 9) v3 (q_X1_verdictOf_64__5 n x1 x2 x3 x4 x5 x6 σ)) else (f_X1_verdictOf_131 (f_X1_verdictOf_64  n) 279 x1 x2 x3 x4 x5 x6 σ)
def q_X1_verdictOf_64__3 (n : Nat) (x1 : Int32) (x2 : Int32) (x3 : Int32) (x4 : Int32) (x5 : Int32) (x6 : Int32) (σ : wg_M) (v3 : Int32) (v4 : Int32) : Option (Int32 × wg_M) := wg_ga 14 (σ 17) x1 (q_X1_verdictOf_64__4 n x1 x2 x3 x4 x5 x6 σ v3 v4)
def q_X1_verdictOf_64__2 (n : Nat) (x1 : Int32) (x2 : Int32) (x3 : Int32) (x4 : Int32) (x5 : Int32) (x6 : Int32) (σ : wg_M) (v3 : Int32) : Option (Int32 × wg_M) := wg_ga 64 (σ 8) v3 (q_X1_verdictOf_64__3 n x1 x2 x3 x4 x5 x6 σ v3)
def q_X1_verdictOf_64__1 (v1 : Int32) (s2 : wg_M) : Option (Int32 × wg_M) := some (v1, s2)
theorem e_X1_verdictOf_64__1 (v1 : Int32) (s2 : wg_M) : q_X1_verdictOf_64__1 v1 s2 = some (v1, s2) := rfl
theorem e_X1_verdictOf_64__2 (n : Nat) (x1 : Int32) (x2 : Int32) (x3 : Int32) (x4 : Int32) (x5 : Int32) (x6 : Int32) (σ : wg_M) (v3 : Int32) : q_X1_verdictOf_64__2 n x1 x2 x3 x4 x5 x6 σ v3 = wg_ga 64 (σ 8) v3 (q_X1_verdictOf_64__3 n x1 x2 x3 x4 x5 x6 σ v3) := rfl
theorem e_X1_verdictOf_64__3 (n : Nat) (x1 : Int32) (x2 : Int32) (x3 : Int32) (x4 : Int32) (x5 : Int32) (x6 : Int32) (σ : wg_M) (v3 : Int32) (v4 : Int32) : q_X1_verdictOf_64__3 n x1 x2 x3 x4 x5 x6 σ v3 v4 = wg_ga 14 (σ 17) x1 (q_X1_verdictOf_64__4 n x1 x2 x3 x4 x5 x6 σ v3 v4) := rfl
theorem e_X1_verdictOf_64__4 (n : Nat) (x1 : Int32) (x2 : Int32) (x3 : Int32) (x4 : Int32) (x5 : Int32) (x6 : Int32) (σ : wg_M) (v3 : Int32) (v4 : Int32) (v5 : Int32) : q_X1_verdictOf_64__4 n x1 x2 x3 x4 x5 x6 σ v3 v4 v5 = if v4 = v5 then (wg_ga 64 (σ 9) v3 (q_X1_verdictOf_64__5 n x1 x2 x3 x4 x5 x6 σ)) else (f_X1_verdictOf_131 (f_X1_verdictOf_64  n) 279 x1 x2 x3 x4 x5 x6 σ) := rfl
theorem e_X1_verdictOf_64__5 (n : Nat) (x1 : Int32) (x2 : Int32) (x3 : Int32) (x4 : Int32) (x5 : Int32) (x6 : Int32) (σ : wg_M) (v6 : Int32) : q_X1_verdictOf_64__5 n x1 x2 x3 x4 x5 x6 σ v6 = wg_bd (f_X1_countsOf 279 x4 x6 x2 σ) (q_X1_verdictOf_64__6 n x1 x2 x3 x4 x5 x6 v6) := rfl
theorem e_X1_verdictOf_64__6 (n : Nat) (x1 : Int32) (x2 : Int32) (x3 : Int32) (x4 : Int32) (x5 : Int32) (x6 : Int32) (v6 : Int32) (v7 : Int32) (s8 : wg_M) : q_X1_verdictOf_64__6 n x1 x2 x3 x4 x5 x6 v6 v7 s8 = wg_bd (f_J9_floorDiv_7cf53 (v6 * v7) (9 : Int32) s8) (q_X1_verdictOf_64__7 n x1 x2 x3 x4 x5 x6) := rfl
theorem e_X1_verdictOf_64__7 (n : Nat) (x1 : Int32) (x2 : Int32) (x3 : Int32) (x4 : Int32) (x5 : Int32) (x6 : Int32) (v9 : Int32) (s10 : wg_M) : q_X1_verdictOf_64__7 n x1 x2 x3 x4 x5 x6 v9 s10 = wg_let (x3 + v9) (q_X1_verdictOf_64__8 n x1 x2 x4 x5 x6 s10) := rfl
theorem e_X1_verdictOf_64__8 (n : Nat) (x1 : Int32) (x2 : Int32) (x4 : Int32) (x5 : Int32) (x6 : Int32) (s10 : wg_M) (v11 : Int32) : q_X1_verdictOf_64__8 n x1 x2 x4 x5 x6 s10 v11 = f_X1_verdictOf_131 (f_X1_verdictOf_64  n) 279 x1 x2 v11 x4 x5 x6 s10 := rfl
theorem e_X1_verdictOf_64 (n : Nat) (x1 : Int32) (x2 : Int32) (x3 : Int32) (x4 : Int32) (x5 : Int32) (x6 : Int32) (σ : wg_M) : f_X1_verdictOf_64 (n + 1) 279 x1 x2 x3 x4 x5 x6 σ = if x5 ≤ x6 then (wg_bd (f_X11_held x3 (-999 : Int32) (999 : Int32) σ) q_X1_verdictOf_64__1) else (wg_let ((x4 * (8 : Int32)) + x6) (q_X1_verdictOf_64__2 n x1 x2 x3 x4 x5 x6 σ)) := by
  rw [f_X1_verdictOf_64]
  simp only [sc_n8, sc_n9, sc_n17, sc_r1_2, sc_r2_5, sc_r2_6, sc_r279_1, sc_r279_2]
  rfl
theorem e_X1_verdictOf_59 (x1 : Int32) (x2 : Int32) (x3 : Int32) (x4 : Int32) (t0 : Int32) (σ : wg_M) : f_X1_verdictOf_59 279 x1 x2 x3 x4 t0 σ = f_X1_verdictOf_64  wg_N 279 x1 x2 x3 x4 t0 (0 : Int32) σ := rfl
def q_X1_verdictOf__6 (x1 : Int32) (x2 : Int32) (v3 : Int32) (v4 : Int32) (s6 : wg_M) (v7 : Int32) : Option (Int32 × wg_M) := f_X1_verdictOf_59  279 x1 x2 v3 v4 v7 s6
def q_X1_verdictOf__5 (x1 : Int32) (x2 : Int32) (v3 : Int32) (v4 : Int32) (v5 : Int32) (s6 : wg_M) : Option (Int32 × wg_M) := if v5 = 0 then (f_X1_verdictOf_59  279 x1 x2 v3 v4 (0 : Int32) s6) else (wg_ga 8 (s6 7) v4 (q_X1_verdictOf__6 x1 x2 v3 v4 s6))
def q_X1_verdictOf__4 (x1 : Int32) (x2 : Int32) (σ : wg_M) (v3 : Int32) (v4 : Int32) : Option (Int32 × wg_M) := wg_bd (f_X9_has 2 v4 σ) (q_X1_verdictOf__5 x1 x2 v3 v4)
def q_X1_verdictOf__3 (x1 : Int32) (x2 : Int32) (σ : wg_M) (v3 : Int32) : Option (Int32 × wg_M) := wg_ga 10 (σ 14) x2 (q_X1_verdictOf__4 x1 x2 σ v3)
def q_X1_verdictOf__2 (x1 : Int32) (x2 : Int32) (σ : wg_M) (v1 : Int32) (v2 : Int32) : Option (Int32 × wg_M) := wg_let (v1 + ((3 : Int32) * v2)) (q_X1_verdictOf__3 x1 x2 σ)
def q_X1_verdictOf__1 (x1 : Int32) (x2 : Int32) (σ : wg_M) (v1 : Int32) : Option (Int32 × wg_M) := wg_ga 10 (σ 13) x2 (q_X1_verdictOf__2 x1 x2 σ v1)
theorem e_X1_verdictOf__1 (x1 : Int32) (x2 : Int32) (σ : wg_M) (v1 : Int32) : q_X1_verdictOf__1 x1 x2 σ v1 = wg_ga 10 (σ 13) x2 (q_X1_verdictOf__2 x1 x2 σ v1) := rfl
theorem e_X1_verdictOf__2 (x1 : Int32) (x2 : Int32) (σ : wg_M) (v1 : Int32) (v2 : Int32) : q_X1_verdictOf__2 x1 x2 σ v1 v2 = wg_let (v1 + ((3 : Int32) * v2)) (q_X1_verdictOf__3 x1 x2 σ) := rfl
theorem e_X1_verdictOf__3 (x1 : Int32) (x2 : Int32) (σ : wg_M) (v3 : Int32) : q_X1_verdictOf__3 x1 x2 σ v3 = wg_ga 10 (σ 14) x2 (q_X1_verdictOf__4 x1 x2 σ v3) := rfl
theorem e_X1_verdictOf__4 (x1 : Int32) (x2 : Int32) (σ : wg_M) (v3 : Int32) (v4 : Int32) : q_X1_verdictOf__4 x1 x2 σ v3 v4 = wg_bd (f_X9_has 2 v4 σ) (q_X1_verdictOf__5 x1 x2 v3 v4) := rfl
theorem e_X1_verdictOf__5 (x1 : Int32) (x2 : Int32) (v3 : Int32) (v4 : Int32) (v5 : Int32) (s6 : wg_M) : q_X1_verdictOf__5 x1 x2 v3 v4 v5 s6 = if v5 = 0 then (f_X1_verdictOf_59  279 x1 x2 v3 v4 (0 : Int32) s6) else (wg_ga 8 (s6 7) v4 (q_X1_verdictOf__6 x1 x2 v3 v4 s6)) := rfl
theorem e_X1_verdictOf__6 (x1 : Int32) (x2 : Int32) (v3 : Int32) (v4 : Int32) (s6 : wg_M) (v7 : Int32) : q_X1_verdictOf__6 x1 x2 v3 v4 s6 v7 = f_X1_verdictOf_59  279 x1 x2 v3 v4 v7 s6 := rfl
theorem e_X1_verdictOf (x1 : Int32) (x2 : Int32) (σ : wg_M) : f_X1_verdictOf 279 x1 x2 σ = wg_ga 14 (σ 18) x1 (q_X1_verdictOf__1 x1 x2 σ) := by
  unfold f_X1_verdictOf
  simp only [sc_n7, sc_n13, sc_n14, sc_n18, sc_r1_3, sc_r2_4, sc_r11_1, sc_r11_2, sc_r279_1, sc_r279_2, sc_r279_3]
  rfl
theorem e_X2_has (x1 : Int32) (σ : wg_M) : f_X2_has 11 x1 σ = if x1 < 0 then (some ((0 : Int32), σ)) else (if (σ 11 5) ≤ x1 then (some ((0 : Int32), σ)) else (some ((1 : Int32), σ))) := rfl
def q_X2_lives__2 (s2 : wg_M) (v3 : Int32) : Option (Int32 × wg_M) := if v3 = 0 then (some ((1 : Int32), s2)) else (some ((0 : Int32), s2))
def q_X2_lives__1 (x1 : Int32) (v1 : Int32) (s2 : wg_M) : Option (Int32 × wg_M) := if v1 = 0 then (some ((0 : Int32), s2)) else (wg_ga 10 (s2 15) x1 (q_X2_lives__2 s2))
theorem e_X2_lives__1 (x1 : Int32) (v1 : Int32) (s2 : wg_M) : q_X2_lives__1 x1 v1 s2 = if v1 = 0 then (some ((0 : Int32), s2)) else (wg_ga 10 (s2 15) x1 (q_X2_lives__2 s2)) := rfl
theorem e_X2_lives__2 (s2 : wg_M) (v3 : Int32) : q_X2_lives__2 s2 v3 = if v3 = 0 then (some ((1 : Int32), s2)) else (some ((0 : Int32), s2)) := rfl
theorem e_X2_lives (x1 : Int32) (σ : wg_M) : f_X2_lives 11 x1 σ = wg_bd (f_X2_has 11 x1 σ) (q_X2_lives__1 x1) := by
  unfold f_X2_lives
  simp only [sc_n15, sc_r11_3]
  rfl
def q_X1_canTry__3 (v4 : Int32) (s5 : wg_M) : Option (Int32 × wg_M) := if v4 = 0 then (some ((0 : Int32), s5)) else (some ((1 : Int32), s5))
def q_X1_canTry__2 (x2 : Int32) (s2 : wg_M) (v3 : Int32) : Option (Int32 × wg_M) := if v3 = (-10000 : Int32) then (wg_bd (f_X2_lives 11 x2 s2) q_X1_canTry__3) else (some ((0 : Int32), s2))
def q_X1_canTry__1 (x1 : Int32) (x2 : Int32) (v1 : Int32) (s2 : wg_M) : Option (Int32 × wg_M) := if v1 = 0 then (some ((0 : Int32), s2)) else (wg_ga 14 (s2 19) x1 (q_X1_canTry__2 x2 s2))
theorem e_X1_canTry__1 (x1 : Int32) (x2 : Int32) (v1 : Int32) (s2 : wg_M) : q_X1_canTry__1 x1 x2 v1 s2 = if v1 = 0 then (some ((0 : Int32), s2)) else (wg_ga 14 (s2 19) x1 (q_X1_canTry__2 x2 s2)) := rfl
theorem e_X1_canTry__2 (x2 : Int32) (s2 : wg_M) (v3 : Int32) : q_X1_canTry__2 x2 s2 v3 = if v3 = (-10000 : Int32) then (wg_bd (f_X2_lives 11 x2 s2) q_X1_canTry__3) else (some ((0 : Int32), s2)) := rfl
theorem e_X1_canTry__3 (v4 : Int32) (s5 : wg_M) : q_X1_canTry__3 v4 s5 = if v4 = 0 then (some ((0 : Int32), s5)) else (some ((1 : Int32), s5)) := rfl
theorem e_X1_canTry (x1 : Int32) (x2 : Int32) (σ : wg_M) : f_X1_canTry 279 x1 x2 σ = wg_bd (f_X0_hasCase 1 x1 σ) (q_X1_canTry__1 x1 x2) := by
  unfold f_X1_canTry
  simp only [sc_n19, sc_r1_4, sc_r279_1, sc_r279_3]
  rfl
def q_X9_lightestRule_41__1 (k4 : Nat → Int32 → Int32 → Int32 → wg_M → Option (Int32 × wg_M)) (x1 : Int32) (x2 : Int32) (σ : wg_M) (v1 : Int32) : Option (Int32 × wg_M) := k4 2 x1 x2 v1 σ
theorem e_X9_lightestRule_41__1 (k4 : Nat → Int32 → Int32 → Int32 → wg_M → Option (Int32 × wg_M)) (x1 : Int32) (x2 : Int32) (σ : wg_M) (v1 : Int32) : q_X9_lightestRule_41__1 k4 x1 x2 σ v1 = k4 2 x1 x2 v1 σ := rfl
theorem e_X9_lightestRule_41 (k4 : Nat → Int32 → Int32 → Int32 → wg_M → Option (Int32 × wg_M)) (x1 : Int32) (x2 : Int32) (x3 : Int32) (σ : wg_M) : f_X9_lightestRule_41 k4 2 x1 x2 x3 σ = wg_let (x3 + (1 : Int32)) (q_X9_lightestRule_41__1 k4 x1 x2 σ) := rfl
def q_X9_lightestRule_4__3 (n : Nat) (x1 : Int32) (x2 : Int32) (x3 : Int32) (σ : wg_M) (v2 : Int32) (v3 : Int32) : Option (Int32 × wg_M) := if v3 ≤ v2 then (f_X9_lightestRule_41 (f_X9_lightestRule_4  n) 2 x1 x2 x3 σ) else (f_X9_lightestRule_41 (f_X9_lightestRule_4  n) 2 x1 x3 x3 σ)
def q_X9_lightestRule_4__2 (n : Nat) (x1 : Int32) (x2 : Int32) (x3 : Int32) (σ : wg_M) (v2 : Int32) : Option (Int32 × wg_M) := wg_ga 64 (σ 10) ((x1 * (8 : Int32)) + x2) (q_X9_lightestRule_4__3 n x1 x2 x3 σ v2)
def q_X9_lightestRule_4__1 (n : Nat) (x1 : Int32) (x2 : Int32) (x3 : Int32) (σ : wg_M) (v1 : Int32) : Option (Int32 × wg_M) := if v1 ≤ x3 then (some (x2, σ)) else (wg_ga 64 (σ 10) ((x1 * (8 : Int32)) + x3) (q_X9_lightestRule_4__2 n x1 x2 x3 σ))
theorem e_X9_lightestRule_4__1 (n : Nat) (x1 : Int32) (x2 : Int32) (x3 : Int32) (σ : wg_M) (v1 : Int32) : q_X9_lightestRule_4__1 n x1 x2 x3 σ v1 = if v1 ≤ x3 then (some (x2, σ)) else (wg_ga 64 (σ 10) ((x1 * (8 : Int32)) + x3) (q_X9_lightestRule_4__2 n x1 x2 x3 σ)) := rfl
theorem e_X9_lightestRule_4__2 (n : Nat) (x1 : Int32) (x2 : Int32) (x3 : Int32) (σ : wg_M) (v2 : Int32) : q_X9_lightestRule_4__2 n x1 x2 x3 σ v2 = wg_ga 64 (σ 10) ((x1 * (8 : Int32)) + x2) (q_X9_lightestRule_4__3 n x1 x2 x3 σ v2) := rfl
theorem e_X9_lightestRule_4__3 (n : Nat) (x1 : Int32) (x2 : Int32) (x3 : Int32) (σ : wg_M) (v2 : Int32) (v3 : Int32) : q_X9_lightestRule_4__3 n x1 x2 x3 σ v2 v3 = if v3 ≤ v2 then (f_X9_lightestRule_41 (f_X9_lightestRule_4  n) 2 x1 x2 x3 σ) else (f_X9_lightestRule_41 (f_X9_lightestRule_4  n) 2 x1 x3 x3 σ) := rfl
theorem e_X9_lightestRule_4 (n : Nat) (x1 : Int32) (x2 : Int32) (x3 : Int32) (σ : wg_M) : f_X9_lightestRule_4 (n + 1) 2 x1 x2 x3 σ = wg_ga 8 (σ 7) x1 (q_X9_lightestRule_4__1 n x1 x2 x3 σ) := by
  rw [f_X9_lightestRule_4]
  simp only [sc_n7, sc_n10, sc_r2_4, sc_r2_7]
  rfl
theorem e_X9_lightestRule (x1 : Int32) (σ : wg_M) : f_X9_lightestRule 2 x1 σ = f_X9_lightestRule_4  wg_N 2 x1 (0 : Int32) (1 : Int32) σ := rfl
def q_X9_moveRule__6 (s6 : wg_M) : Option (Int32 × wg_M) := some (0, s6)
def q_X9_moveRule__5 (x2 : Int32) (s4 : wg_M) (v5 : Int32) : Option (Int32 × wg_M) := wg_sa 64 s4 10 x2 v5 q_X9_moveRule__6
def q_X9_moveRule__4 (x1 : Int32) (x2 : Int32) (s4 : wg_M) : Option (Int32 × wg_M) := wg_ga 64 (s4 10) x1 (q_X9_moveRule__5 x2 s4)
def q_X9_moveRule__3 (x1 : Int32) (x2 : Int32) (s2 : wg_M) (v3 : Int32) : Option (Int32 × wg_M) := wg_sa 64 s2 9 x2 v3 (q_X9_moveRule__4 x1 x2)
def q_X9_moveRule__2 (x1 : Int32) (x2 : Int32) (s2 : wg_M) : Option (Int32 × wg_M) := wg_ga 64 (s2 9) x1 (q_X9_moveRule__3 x1 x2 s2)
def q_X9_moveRule__1 (x1 : Int32) (x2 : Int32) (σ : wg_M) (v1 : Int32) : Option (Int32 × wg_M) := wg_sa 64 σ 8 x2 v1 (q_X9_moveRule__2 x1 x2)
theorem e_X9_moveRule__1 (x1 : Int32) (x2 : Int32) (σ : wg_M) (v1 : Int32) : q_X9_moveRule__1 x1 x2 σ v1 = wg_sa 64 σ 8 x2 v1 (q_X9_moveRule__2 x1 x2) := rfl
theorem e_X9_moveRule__2 (x1 : Int32) (x2 : Int32) (s2 : wg_M) : q_X9_moveRule__2 x1 x2 s2 = wg_ga 64 (s2 9) x1 (q_X9_moveRule__3 x1 x2 s2) := rfl
theorem e_X9_moveRule__3 (x1 : Int32) (x2 : Int32) (s2 : wg_M) (v3 : Int32) : q_X9_moveRule__3 x1 x2 s2 v3 = wg_sa 64 s2 9 x2 v3 (q_X9_moveRule__4 x1 x2) := rfl
theorem e_X9_moveRule__4 (x1 : Int32) (x2 : Int32) (s4 : wg_M) : q_X9_moveRule__4 x1 x2 s4 = wg_ga 64 (s4 10) x1 (q_X9_moveRule__5 x2 s4) := rfl
theorem e_X9_moveRule__5 (x2 : Int32) (s4 : wg_M) (v5 : Int32) : q_X9_moveRule__5 x2 s4 v5 = wg_sa 64 s4 10 x2 v5 q_X9_moveRule__6 := rfl
theorem e_X9_moveRule__6 (s6 : wg_M) : q_X9_moveRule__6 s6 = some (0, s6) := rfl
theorem e_X9_moveRule (x1 : Int32) (x2 : Int32) (σ : wg_M) : f_X9_moveRule 2 x1 x2 σ = wg_ga 64 (σ 8) x1 (q_X9_moveRule__1 x1 x2 σ) := by
  unfold f_X9_moveRule
  simp only [sc_n8, sc_n9, sc_n10, sc_r2_5, sc_r2_6, sc_r2_7]
  rfl
def q_X9_rulesFor_73__1 (k6 : Nat → Int32 → Int32 → Int32 → Int32 → Int32 → wg_M → Option (Int32 × wg_M)) (x1 : Int32) (x2 : Int32) (x3 : Int32) (x4 : Int32) (σ : wg_M) (v1 : Int32) : Option (Int32 × wg_M) := k6 2 x1 x2 x3 x4 v1 σ
theorem e_X9_rulesFor_73__1 (k6 : Nat → Int32 → Int32 → Int32 → Int32 → Int32 → wg_M → Option (Int32 × wg_M)) (x1 : Int32) (x2 : Int32) (x3 : Int32) (x4 : Int32) (σ : wg_M) (v1 : Int32) : q_X9_rulesFor_73__1 k6 x1 x2 x3 x4 σ v1 = k6 2 x1 x2 x3 x4 v1 σ := rfl
theorem e_X9_rulesFor_73 (k6 : Nat → Int32 → Int32 → Int32 → Int32 → Int32 → wg_M → Option (Int32 × wg_M)) (x1 : Int32) (x2 : Int32) (x3 : Int32) (x4 : Int32) (x5 : Int32) (σ : wg_M) : f_X9_rulesFor_73 k6 2 x1 x2 x3 x4 x5 σ = wg_let (x5 + (1 : Int32)) (q_X9_rulesFor_73__1 k6 x1 x2 x3 x4 σ) := rfl
def q_X9_rulesFor_64__1 (k6 : Nat → Int32 → Int32 → Int32 → Int32 → Int32 → wg_M → Option (Int32 × wg_M)) (x1 : Int32) (x2 : Int32) (x3 : Int32) (x5 : Int32) (σ : wg_M) (v1 : Int32) : Option (Int32 × wg_M) := f_X9_rulesFor_73 k6 2 x1 x2 x3 v1 x5 σ
theorem e_X9_rulesFor_64__1 (k6 : Nat → Int32 → Int32 → Int32 → Int32 → Int32 → wg_M → Option (Int32 × wg_M)) (x1 : Int32) (x2 : Int32) (x3 : Int32) (x5 : Int32) (σ : wg_M) (v1 : Int32) : q_X9_rulesFor_64__1 k6 x1 x2 x3 x5 σ v1 = f_X9_rulesFor_73 k6 2 x1 x2 x3 v1 x5 σ := rfl
theorem e_X9_rulesFor_64 (k6 : Nat → Int32 → Int32 → Int32 → Int32 → Int32 → wg_M → Option (Int32 × wg_M)) (x1 : Int32) (x2 : Int32) (x3 : Int32) (x4 : Int32) (x5 : Int32) (σ : wg_M) : f_X9_rulesFor_64 k6 2 x1 x2 x3 x4 x5 σ = wg_let (x4 ||| ((1 : Int32) <<< (x5 &&& 31))) (q_X9_rulesFor_64__1 k6 x1 x2 x3 x5 σ) := rfl
def q_X9_rulesFor_6__5 (n : Nat) (x1 : Int32) (x2 : Int32) (x3 : Int32) (x4 : Int32) (x5 : Int32) (σ : wg_M) (v5 : Int32) : Option (Int32 × wg_M) := if v5 ≤ 0 then (f_X9_rulesFor_73 (f_X9_rulesFor_6  n) 2 x1 x2 x3 x4 x5 σ) else (f_X9_rulesFor_64 (f_X9_rulesFor_6  n) 2 x1 x2 x3 x4 x5 σ)
def q_X9_rulesFor_6__4 (n : Nat) (x1 : Int32) (x2 : Int32) (x3 : Int32) (x4 : Int32) (x5 : Int32) (σ : wg_M) (v4 : Int32) : Option (Int32 × wg_M) := if 0 ≤ v4 then (f_X9_rulesFor_73 (f_X9_rulesFor_6  n) 2 x1 x2 x3 x4 x5 σ) else (f_X9_rulesFor_64 (f_X9_rulesFor_6  n) 2 x1 x2 x3 x4 x5 σ)
def q_X9_rulesFor_6__3 (n : Nat) (x1 : Int32) (x2 : Int32) (x3 : Int32) (x4 : Int32) (x5 : Int32) (σ : wg_M) (v2 : Int32) (v3 : Int32) : Option (Int32 × wg_M) := if v3 = x2 then (if x3 = 0 then (wg_ga 64 (σ 9) v2 (q_X9_rulesFor_6__4 n x1 x2 x3 x4 x5 σ)) else (wg_ga 64 (σ 9) v2 (q_X9_rulesFor_6__5 n x1 x2 x3 x4 x5 σ))) else (f_X9_rulesFor_73 (f_X9_rulesFor_6  n) 2 x1 x2 x3 x4 x5 σ)
def q_X9_rulesFor_6__2 (n : Nat) (x1 : Int32) (x2 : Int32) (x3 : Int32) (x4 : Int32) (x5 : Int32) (σ : wg_M) (v2 : Int32) : Option (Int32 × wg_M) := wg_ga 64 (σ 8) v2 (q_X9_rulesFor_6__3 n x1 x2 x3 x4 x5 σ v2)
def q_X9_rulesFor_6__1 (n : Nat) (x1 : Int32) (x2 : Int32) (x3 : Int32) (x4 : Int32) (x5 : Int32) (σ : wg_M) (v1 : Int32) : Option (Int32 × wg_M) := if v1 ≤ x5 then (some (x4, σ)) else (wg_let ((x1 * (8 : Int32)) + x5) (q_X9_rulesFor_6__2 n x1 x2 x3 x4 x5 σ))
theorem e_X9_rulesFor_6__1 (n : Nat) (x1 : Int32) (x2 : Int32) (x3 : Int32) (x4 : Int32) (x5 : Int32) (σ : wg_M) (v1 : Int32) : q_X9_rulesFor_6__1 n x1 x2 x3 x4 x5 σ v1 = if v1 ≤ x5 then (some (x4, σ)) else (wg_let ((x1 * (8 : Int32)) + x5) (q_X9_rulesFor_6__2 n x1 x2 x3 x4 x5 σ)) := rfl
theorem e_X9_rulesFor_6__2 (n : Nat) (x1 : Int32) (x2 : Int32) (x3 : Int32) (x4 : Int32) (x5 : Int32) (σ : wg_M) (v2 : Int32) : q_X9_rulesFor_6__2 n x1 x2 x3 x4 x5 σ v2 = wg_ga 64 (σ 8) v2 (q_X9_rulesFor_6__3 n x1 x2 x3 x4 x5 σ v2) := rfl
theorem e_X9_rulesFor_6__3 (n : Nat) (x1 : Int32) (x2 : Int32) (x3 : Int32) (x4 : Int32) (x5 : Int32) (σ : wg_M) (v2 : Int32) (v3 : Int32) : q_X9_rulesFor_6__3 n x1 x2 x3 x4 x5 σ v2 v3 = if v3 = x2 then (if x3 = 0 then (wg_ga 64 (σ 9) v2 (q_X9_rulesFor_6__4 n x1 x2 x3 x4 x5 σ)) else (wg_ga 64 (σ 9) v2 (q_X9_rulesFor_6__5 n x1 x2 x3 x4 x5 σ))) else (f_X9_rulesFor_73 (f_X9_rulesFor_6  n) 2 x1 x2 x3 x4 x5 σ) := rfl
theorem e_X9_rulesFor_6__4 (n : Nat) (x1 : Int32) (x2 : Int32) (x3 : Int32) (x4 : Int32) (x5 : Int32) (σ : wg_M) (v4 : Int32) : q_X9_rulesFor_6__4 n x1 x2 x3 x4 x5 σ v4 = if 0 ≤ v4 then (f_X9_rulesFor_73 (f_X9_rulesFor_6  n) 2 x1 x2 x3 x4 x5 σ) else (f_X9_rulesFor_64 (f_X9_rulesFor_6  n) 2 x1 x2 x3 x4 x5 σ) := rfl
theorem e_X9_rulesFor_6__5 (n : Nat) (x1 : Int32) (x2 : Int32) (x3 : Int32) (x4 : Int32) (x5 : Int32) (σ : wg_M) (v5 : Int32) : q_X9_rulesFor_6__5 n x1 x2 x3 x4 x5 σ v5 = if v5 ≤ 0 then (f_X9_rulesFor_73 (f_X9_rulesFor_6  n) 2 x1 x2 x3 x4 x5 σ) else (f_X9_rulesFor_64 (f_X9_rulesFor_6  n) 2 x1 x2 x3 x4 x5 σ) := rfl
theorem e_X9_rulesFor_6 (n : Nat) (x1 : Int32) (x2 : Int32) (x3 : Int32) (x4 : Int32) (x5 : Int32) (σ : wg_M) : f_X9_rulesFor_6 (n + 1) 2 x1 x2 x3 x4 x5 σ = wg_ga 8 (σ 7) x1 (q_X9_rulesFor_6__1 n x1 x2 x3 x4 x5 σ) := by
  rw [f_X9_rulesFor_6]
  simp only [sc_n7, sc_n8, sc_n9, sc_r2_4, sc_r2_5, sc_r2_6]
  rfl
theorem e_X9_rulesFor (x1 : Int32) (x2 : Int32) (x3 : Int32) (σ : wg_M) : f_X9_rulesFor 2 x1 x2 x3 σ = f_X9_rulesFor_6  wg_N 2 x1 x2 x3 (0 : Int32) (0 : Int32) σ := rfl
def q_X9_itchAnew_4__8 (n : Nat) (x1 : Int32) (s11 : wg_M) (v12 : Int32) (v13 : Int32) : Option (Int32 × wg_M) := f_X9_itchAnew_4  n 2 x1 v12 v13 s11
def q_X9_itchAnew_4__7 (n : Nat) (x1 : Int32) (x3 : Int32) (s11 : wg_M) (v12 : Int32) : Option (Int32 × wg_M) := wg_let (x3 + (1 : Int32)) (q_X9_itchAnew_4__8 n x1 s11 v12)
def q_X9_itchAnew_4__6 (n : Nat) (x1 : Int32) (x2 : Int32) (x3 : Int32) (v6 : Int32) (v10 : Int32) (s11 : wg_M) : Option (Int32 × wg_M) := wg_let (x2 + (v6 * v10)) (q_X9_itchAnew_4__7 n x1 x3 s11)
def q_X9_itchAnew_4__5 (n : Nat) (x1 : Int32) (x2 : Int32) (x3 : Int32) (v6 : Int32) (v8 : Int32) (s9 : wg_M) : Option (Int32 × wg_M) := wg_bd (f_J6_bitCount_0f7a4 v8 s9) (q_X9_itchAnew_4__6 n x1 x2 x3 v6)
def q_X9_itchAnew_4__4 (n : Nat) (x1 : Int32) (x2 : Int32) (x3 : Int32) (v6 : Int32) (s7 : wg_M) : Option (Int32 × wg_M) := wg_bd (f_X9_rulesFor 2 x1 x3 (1 : Int32) s7) (q_X9_itchAnew_4__5 n x1 x2 x3 v6)
def q_X9_itchAnew_4__3 (n : Nat) (x1 : Int32) (x2 : Int32) (x3 : Int32) (v4 : Int32) (s5 : wg_M) : Option (Int32 × wg_M) := wg_bd (f_J6_bitCount_0f7a4 v4 s5) (q_X9_itchAnew_4__4 n x1 x2 x3)
def q_X9_itchAnew_4__2 (s3 : wg_M) : Option (Int32 × wg_M) := some (0, s3)
def q_X9_itchAnew_4__1 (x1 : Int32) (v1 : Int32) (s2 : wg_M) : Option (Int32 × wg_M) := wg_sa 8 s2 5 x1 v1 q_X9_itchAnew_4__2
theorem e_X9_itchAnew_4__1 (x1 : Int32) (v1 : Int32) (s2 : wg_M) : q_X9_itchAnew_4__1 x1 v1 s2 = wg_sa 8 s2 5 x1 v1 q_X9_itchAnew_4__2 := rfl
theorem e_X9_itchAnew_4__2 (s3 : wg_M) : q_X9_itchAnew_4__2 s3 = some (0, s3) := rfl
theorem e_X9_itchAnew_4__3 (n : Nat) (x1 : Int32) (x2 : Int32) (x3 : Int32) (v4 : Int32) (s5 : wg_M) : q_X9_itchAnew_4__3 n x1 x2 x3 v4 s5 = wg_bd (f_J6_bitCount_0f7a4 v4 s5) (q_X9_itchAnew_4__4 n x1 x2 x3) := rfl
theorem e_X9_itchAnew_4__4 (n : Nat) (x1 : Int32) (x2 : Int32) (x3 : Int32) (v6 : Int32) (s7 : wg_M) : q_X9_itchAnew_4__4 n x1 x2 x3 v6 s7 = wg_bd (f_X9_rulesFor 2 x1 x3 (1 : Int32) s7) (q_X9_itchAnew_4__5 n x1 x2 x3 v6) := rfl
theorem e_X9_itchAnew_4__5 (n : Nat) (x1 : Int32) (x2 : Int32) (x3 : Int32) (v6 : Int32) (v8 : Int32) (s9 : wg_M) : q_X9_itchAnew_4__5 n x1 x2 x3 v6 v8 s9 = wg_bd (f_J6_bitCount_0f7a4 v8 s9) (q_X9_itchAnew_4__6 n x1 x2 x3 v6) := rfl
theorem e_X9_itchAnew_4__6 (n : Nat) (x1 : Int32) (x2 : Int32) (x3 : Int32) (v6 : Int32) (v10 : Int32) (s11 : wg_M) : q_X9_itchAnew_4__6 n x1 x2 x3 v6 v10 s11 = wg_let (x2 + (v6 * v10)) (q_X9_itchAnew_4__7 n x1 x3 s11) := rfl
theorem e_X9_itchAnew_4__7 (n : Nat) (x1 : Int32) (x3 : Int32) (s11 : wg_M) (v12 : Int32) : q_X9_itchAnew_4__7 n x1 x3 s11 v12 = wg_let (x3 + (1 : Int32)) (q_X9_itchAnew_4__8 n x1 s11 v12) := rfl
theorem e_X9_itchAnew_4__8 (n : Nat) (x1 : Int32) (s11 : wg_M) (v12 : Int32) (v13 : Int32) : q_X9_itchAnew_4__8 n x1 s11 v12 v13 = f_X9_itchAnew_4  n 2 x1 v12 v13 s11 := rfl
theorem e_X9_itchAnew_4 (n : Nat) (x1 : Int32) (x2 : Int32) (x3 : Int32) (σ : wg_M) : f_X9_itchAnew_4 (n + 1) 2 x1 x2 x3 σ = if (8 : Int32) ≤ x3 then (wg_bd (f_J9_min_7cf53 (99 : Int32) (x2 * (9 : Int32)) σ) (q_X9_itchAnew_4__1 x1)) else (wg_bd (f_X9_rulesFor 2 x1 x3 (0 : Int32) σ) (q_X9_itchAnew_4__3 n x1 x2 x3)) := by
  rw [f_X9_itchAnew_4]
  simp only [sc_n5, sc_r2_2]
  rfl
theorem e_X9_itchAnew (x1 : Int32) (σ : wg_M) : f_X9_itchAnew 2 x1 σ = f_X9_itchAnew_4  wg_N 2 x1 (0 : Int32) (0 : Int32) σ := rfl
def q_X9_dropRule_22__5 (n : Nat) (x1 : Int32) (x3 : Int32) (s4 : wg_M) (v5 : Int32) : Option (Int32 × wg_M) := f_X9_dropRule_22  n 2 x1 x3 v5 s4
def q_X9_dropRule_22__4 (n : Nat) (x1 : Int32) (x3 : Int32) (x4 : Int32) (_u4 : Int32) (s4 : wg_M) : Option (Int32 × wg_M) := wg_let (x4 + (1 : Int32)) (q_X9_dropRule_22__5 n x1 x3 s4)
def q_X9_dropRule_22__3 (_u3 : Int32) (s3 : wg_M) : Option (Int32 × wg_M) := some (0, s3)
def q_X9_dropRule_22__2 (x1 : Int32) (s2 : wg_M) : Option (Int32 × wg_M) := wg_bd (f_X9_itchAnew 2 x1 s2) q_X9_dropRule_22__3
def q_X9_dropRule_22__1 (x1 : Int32) (σ : wg_M) (v1 : Int32) : Option (Int32 × wg_M) := wg_sa 8 σ 7 x1 (v1 - (1 : Int32)) (q_X9_dropRule_22__2 x1)
theorem e_X9_dropRule_22__1 (x1 : Int32) (σ : wg_M) (v1 : Int32) : q_X9_dropRule_22__1 x1 σ v1 = wg_sa 8 σ 7 x1 (v1 - (1 : Int32)) (q_X9_dropRule_22__2 x1) := rfl
theorem e_X9_dropRule_22__2 (x1 : Int32) (s2 : wg_M) : q_X9_dropRule_22__2 x1 s2 = wg_bd (f_X9_itchAnew 2 x1 s2) q_X9_dropRule_22__3 := rfl
theorem e_X9_dropRule_22__3 (_u3 : Int32) (s3 : wg_M) : q_X9_dropRule_22__3 _u3 s3 = some (0, s3) := rfl
theorem e_X9_dropRule_22__4 (n : Nat) (x1 : Int32) (x3 : Int32) (x4 : Int32) (_u4 : Int32) (s4 : wg_M) : q_X9_dropRule_22__4 n x1 x3 x4 _u4 s4 = wg_let (x4 + (1 : Int32)) (q_X9_dropRule_22__5 n x1 x3 s4) := rfl
theorem e_X9_dropRule_22__5 (n : Nat) (x1 : Int32) (x3 : Int32) (s4 : wg_M) (v5 : Int32) : q_X9_dropRule_22__5 n x1 x3 s4 v5 = f_X9_dropRule_22  n 2 x1 x3 v5 s4 := rfl
theorem e_X9_dropRule_22 (n : Nat) (x1 : Int32) (x3 : Int32) (x4 : Int32) (σ : wg_M) : f_X9_dropRule_22 (n + 1) 2 x1 x3 x4 σ = if x3 ≤ x4 then (wg_ga 8 (σ 7) x1 (q_X9_dropRule_22__1 x1 σ)) else (wg_bd (f_X9_moveRule 2 (x4 + (1 : Int32)) x4 σ) (q_X9_dropRule_22__4 n x1 x3 x4)) := by
  rw [f_X9_dropRule_22]
  simp only [sc_n7, sc_r2_4]
  rfl
def q_X9_dropRule__3 (x1 : Int32) (σ : wg_M) (v2 : Int32) (v3 : Int32) : Option (Int32 × wg_M) := f_X9_dropRule_22  wg_N 2 x1 v2 v3 σ
def q_X9_dropRule__2 (x1 : Int32) (x2 : Int32) (σ : wg_M) (v2 : Int32) : Option (Int32 × wg_M) := wg_let ((x1 * (8 : Int32)) + x2) (q_X9_dropRule__3 x1 σ v2)
def q_X9_dropRule__1 (x1 : Int32) (x2 : Int32) (σ : wg_M) (v1 : Int32) : Option (Int32 × wg_M) := wg_let (((x1 * (8 : Int32)) + v1) - (1 : Int32)) (q_X9_dropRule__2 x1 x2 σ)
theorem e_X9_dropRule__1 (x1 : Int32) (x2 : Int32) (σ : wg_M) (v1 : Int32) : q_X9_dropRule__1 x1 x2 σ v1 = wg_let (((x1 * (8 : Int32)) + v1) - (1 : Int32)) (q_X9_dropRule__2 x1 x2 σ) := rfl
theorem e_X9_dropRule__2 (x1 : Int32) (x2 : Int32) (σ : wg_M) (v2 : Int32) : q_X9_dropRule__2 x1 x2 σ v2 = wg_let ((x1 * (8 : Int32)) + x2) (q_X9_dropRule__3 x1 σ v2) := rfl
theorem e_X9_dropRule__3 (x1 : Int32) (σ : wg_M) (v2 : Int32) (v3 : Int32) : q_X9_dropRule__3 x1 σ v2 v3 = f_X9_dropRule_22  wg_N 2 x1 v2 v3 σ := rfl
theorem e_X9_dropRule (x1 : Int32) (x2 : Int32) (σ : wg_M) : f_X9_dropRule 2 x1 x2 σ = wg_ga 8 (σ 7) x1 (q_X9_dropRule__1 x1 x2 σ) := by
  unfold f_X9_dropRule
  simp only [sc_n7, sc_r2_4]
  rfl
def q_X9_addRule__9 (_u9 : Int32) (s9 : wg_M) : Option (Int32 × wg_M) := some (0, s9)
def q_X9_addRule__8 (x1 : Int32) (s8 : wg_M) : Option (Int32 × wg_M) := wg_bd (f_X9_itchAnew 2 x1 s8) q_X9_addRule__9
def q_X9_addRule__7 (x1 : Int32) (s6 : wg_M) (v7 : Int32) : Option (Int32 × wg_M) := wg_sa 8 s6 7 x1 (v7 + (1 : Int32)) (q_X9_addRule__8 x1)
def q_X9_addRule__6 (x1 : Int32) (s6 : wg_M) : Option (Int32 × wg_M) := wg_ga 8 (s6 7) x1 (q_X9_addRule__7 x1 s6)
def q_X9_addRule__5 (x1 : Int32) (x4 : Int32) (v3 : Int32) (s5 : wg_M) : Option (Int32 × wg_M) := wg_sa 64 s5 10 v3 x4 (q_X9_addRule__6 x1)
def q_X9_addRule__4 (x1 : Int32) (x3 : Int32) (x4 : Int32) (v3 : Int32) (s4 : wg_M) : Option (Int32 × wg_M) := wg_sa 64 s4 9 v3 x3 (q_X9_addRule__5 x1 x4 v3)
def q_X9_addRule__3 (x1 : Int32) (x2 : Int32) (x3 : Int32) (x4 : Int32) (σ : wg_M) (v3 : Int32) : Option (Int32 × wg_M) := wg_sa 64 σ 8 v3 x2 (q_X9_addRule__4 x1 x3 x4 v3)
def q_X9_addRule__2 (x1 : Int32) (x2 : Int32) (x3 : Int32) (x4 : Int32) (σ : wg_M) (v2 : Int32) : Option (Int32 × wg_M) := wg_let ((x1 * (8 : Int32)) + v2) (q_X9_addRule__3 x1 x2 x3 x4 σ)
def q_X9_addRule__1 (x1 : Int32) (x2 : Int32) (x3 : Int32) (x4 : Int32) (σ : wg_M) (v1 : Int32) : Option (Int32 × wg_M) := if v1 < (8 : Int32) then (wg_ga 8 (σ 7) x1 (q_X9_addRule__2 x1 x2 x3 x4 σ)) else (some (0, σ))
theorem e_X9_addRule__1 (x1 : Int32) (x2 : Int32) (x3 : Int32) (x4 : Int32) (σ : wg_M) (v1 : Int32) : q_X9_addRule__1 x1 x2 x3 x4 σ v1 = if v1 < (8 : Int32) then (wg_ga 8 (σ 7) x1 (q_X9_addRule__2 x1 x2 x3 x4 σ)) else (some (0, σ)) := rfl
theorem e_X9_addRule__2 (x1 : Int32) (x2 : Int32) (x3 : Int32) (x4 : Int32) (σ : wg_M) (v2 : Int32) : q_X9_addRule__2 x1 x2 x3 x4 σ v2 = wg_let ((x1 * (8 : Int32)) + v2) (q_X9_addRule__3 x1 x2 x3 x4 σ) := rfl
theorem e_X9_addRule__3 (x1 : Int32) (x2 : Int32) (x3 : Int32) (x4 : Int32) (σ : wg_M) (v3 : Int32) : q_X9_addRule__3 x1 x2 x3 x4 σ v3 = wg_sa 64 σ 8 v3 x2 (q_X9_addRule__4 x1 x3 x4 v3) := rfl
theorem e_X9_addRule__4 (x1 : Int32) (x3 : Int32) (x4 : Int32) (v3 : Int32) (s4 : wg_M) : q_X9_addRule__4 x1 x3 x4 v3 s4 = wg_sa 64 s4 9 v3 x3 (q_X9_addRule__5 x1 x4 v3) := rfl
theorem e_X9_addRule__5 (x1 : Int32) (x4 : Int32) (v3 : Int32) (s5 : wg_M) : q_X9_addRule__5 x1 x4 v3 s5 = wg_sa 64 s5 10 v3 x4 (q_X9_addRule__6 x1) := rfl
theorem e_X9_addRule__6 (x1 : Int32) (s6 : wg_M) : q_X9_addRule__6 x1 s6 = wg_ga 8 (s6 7) x1 (q_X9_addRule__7 x1 s6) := rfl
theorem e_X9_addRule__7 (x1 : Int32) (s6 : wg_M) (v7 : Int32) : q_X9_addRule__7 x1 s6 v7 = wg_sa 8 s6 7 x1 (v7 + (1 : Int32)) (q_X9_addRule__8 x1) := rfl
theorem e_X9_addRule__8 (x1 : Int32) (s8 : wg_M) : q_X9_addRule__8 x1 s8 = wg_bd (f_X9_itchAnew 2 x1 s8) q_X9_addRule__9 := rfl
theorem e_X9_addRule__9 (_u9 : Int32) (s9 : wg_M) : q_X9_addRule__9 _u9 s9 = some (0, s9) := rfl
theorem e_X9_addRule (x1 : Int32) (x2 : Int32) (x3 : Int32) (x4 : Int32) (σ : wg_M) : f_X9_addRule 2 x1 x2 x3 x4 σ = wg_ga 8 (σ 7) x1 (q_X9_addRule__1 x1 x2 x3 x4 σ) := by
  unfold f_X9_addRule
  simp only [sc_n7, sc_n8, sc_n9, sc_n10, sc_r2_4, sc_r2_5, sc_r2_6, sc_r2_7]
  rfl
def q_X1_tryCase_129__1 (_u1 : Int32) (s1 : wg_M) : Option (Int32 × wg_M) := some (0, s1)
theorem e_X1_tryCase_129__1 (_u1 : Int32) (s1 : wg_M) : q_X1_tryCase_129__1 _u1 s1 = some (0, s1) := rfl
theorem e_X1_tryCase_129 (x1 : Int32) (x3 : Int32) (σ : wg_M) : f_X1_tryCase_129 279 x1 x3 σ = wg_bd (f_X1_note 279 (0 : Int32) x1 x3 σ) q_X1_tryCase_129__1 := rfl
def q_X1_tryCase_96__4 (x1 : Int32) (x3 : Int32) (_u4 : Int32) (s6 : wg_M) : Option (Int32 × wg_M) := f_X1_tryCase_129  279 x1 x3 s6
def q_X1_tryCase_96__3 (x1 : Int32) (x3 : Int32) (x4 : Int32) (v1 : Int32) (v4 : Int32) (s5 : wg_M) : Option (Int32 × wg_M) := wg_bd (f_X9_addRule 2 x4 v1 v4 (9 : Int32) s5) (q_X1_tryCase_96__4 x1 x3)
def q_X1_tryCase_96__2 (x1 : Int32) (x3 : Int32) (x4 : Int32) (v1 : Int32) (v2 : Int32) (s3 : wg_M) : Option (Int32 × wg_M) := wg_bd (f_X11_held v2 (-9 : Int32) (9 : Int32) s3) (q_X1_tryCase_96__3 x1 x3 x4 v1)
def q_X1_tryCase_96__1 (x1 : Int32) (x3 : Int32) (x4 : Int32) (σ : wg_M) (v1 : Int32) : Option (Int32 × wg_M) := wg_bd (f_J9_floorDiv_7cf53 x3 (20 : Int32) σ) (q_X1_tryCase_96__2 x1 x3 x4 v1)
theorem e_X1_tryCase_96__1 (x1 : Int32) (x3 : Int32) (x4 : Int32) (σ : wg_M) (v1 : Int32) : q_X1_tryCase_96__1 x1 x3 x4 σ v1 = wg_bd (f_J9_floorDiv_7cf53 x3 (20 : Int32) σ) (q_X1_tryCase_96__2 x1 x3 x4 v1) := rfl
theorem e_X1_tryCase_96__2 (x1 : Int32) (x3 : Int32) (x4 : Int32) (v1 : Int32) (v2 : Int32) (s3 : wg_M) : q_X1_tryCase_96__2 x1 x3 x4 v1 v2 s3 = wg_bd (f_X11_held v2 (-9 : Int32) (9 : Int32) s3) (q_X1_tryCase_96__3 x1 x3 x4 v1) := rfl
theorem e_X1_tryCase_96__3 (x1 : Int32) (x3 : Int32) (x4 : Int32) (v1 : Int32) (v4 : Int32) (s5 : wg_M) : q_X1_tryCase_96__3 x1 x3 x4 v1 v4 s5 = wg_bd (f_X9_addRule 2 x4 v1 v4 (9 : Int32) s5) (q_X1_tryCase_96__4 x1 x3) := rfl
theorem e_X1_tryCase_96__4 (x1 : Int32) (x3 : Int32) (_u4 : Int32) (s6 : wg_M) : q_X1_tryCase_96__4 x1 x3 _u4 s6 = f_X1_tryCase_129  279 x1 x3 s6 := rfl
theorem e_X1_tryCase_96 (x1 : Int32) (x3 : Int32) (x4 : Int32) (σ : wg_M) : f_X1_tryCase_96 279 x1 x3 x4 σ = wg_ga 14 (σ 17) x1 (q_X1_tryCase_96__1 x1 x3 x4 σ) := by
  unfold f_X1_tryCase_96
  simp only [sc_n17, sc_r1_2, sc_r279_1, sc_r279_2]
  rfl
def q_X1_tryCase__10 (x1 : Int32) (v1 : Int32) (v7 : Int32) (_u10 : Int32) (s13 : wg_M) : Option (Int32 × wg_M) := f_X1_tryCase_96  279 x1 v1 v7 s13
def q_X1_tryCase__9 (x1 : Int32) (v1 : Int32) (v7 : Int32) (v11 : Int32) (s12 : wg_M) : Option (Int32 × wg_M) := wg_bd (f_X9_dropRule 2 v7 v11 s12) (q_X1_tryCase__10 x1 v1 v7)
def q_X1_tryCase__8 (x1 : Int32) (v1 : Int32) (v7 : Int32) (s9 : wg_M) (v10 : Int32) : Option (Int32 × wg_M) := if v10 < (8 : Int32) then (f_X1_tryCase_96  279 x1 v1 v7 s9) else (wg_bd (f_X9_lightestRule 2 v7 s9) (q_X1_tryCase__9 x1 v1 v7))
def q_X1_tryCase__7 (x1 : Int32) (v1 : Int32) (v7 : Int32) (v8 : Int32) (s9 : wg_M) : Option (Int32 × wg_M) := if v8 = 0 then (f_X1_tryCase_129  279 x1 v1 s9) else (wg_ga 8 (s9 7) v7 (q_X1_tryCase__8 x1 v1 v7 s9))
def q_X1_tryCase__6 (x1 : Int32) (v1 : Int32) (s6 : wg_M) (v7 : Int32) : Option (Int32 × wg_M) := wg_bd (f_X9_has 2 v7 s6) (q_X1_tryCase__7 x1 v1 v7)
def q_X1_tryCase__5 (x1 : Int32) (x2 : Int32) (v1 : Int32) (s6 : wg_M) : Option (Int32 × wg_M) := wg_ga 10 (s6 14) x2 (q_X1_tryCase__6 x1 v1 s6)
def q_X1_tryCase__4 (x1 : Int32) (x2 : Int32) (v1 : Int32) (s4 : wg_M) (v5 : Int32) : Option (Int32 × wg_M) := wg_sa 10 s4 16 x2 (v5 + (1 : Int32)) (q_X1_tryCase__5 x1 x2 v1)
def q_X1_tryCase__3 (x1 : Int32) (x2 : Int32) (v1 : Int32) (s4 : wg_M) : Option (Int32 × wg_M) := wg_ga 10 (s4 16) x2 (q_X1_tryCase__4 x1 x2 v1 s4)
def q_X1_tryCase__2 (x1 : Int32) (x2 : Int32) (v1 : Int32) (s3 : wg_M) : Option (Int32 × wg_M) := wg_sa 14 s3 20 x1 x2 (q_X1_tryCase__3 x1 x2 v1)
def q_X1_tryCase__1 (x1 : Int32) (x2 : Int32) (v1 : Int32) (s2 : wg_M) : Option (Int32 × wg_M) := wg_sa 14 s2 19 x1 v1 (q_X1_tryCase__2 x1 x2 v1)
theorem e_X1_tryCase__1 (x1 : Int32) (x2 : Int32) (v1 : Int32) (s2 : wg_M) : q_X1_tryCase__1 x1 x2 v1 s2 = wg_sa 14 s2 19 x1 v1 (q_X1_tryCase__2 x1 x2 v1) := rfl
theorem e_X1_tryCase__2 (x1 : Int32) (x2 : Int32) (v1 : Int32) (s3 : wg_M) : q_X1_tryCase__2 x1 x2 v1 s3 = wg_sa 14 s3 20 x1 x2 (q_X1_tryCase__3 x1 x2 v1) := rfl
theorem e_X1_tryCase__3 (x1 : Int32) (x2 : Int32) (v1 : Int32) (s4 : wg_M) : q_X1_tryCase__3 x1 x2 v1 s4 = wg_ga 10 (s4 16) x2 (q_X1_tryCase__4 x1 x2 v1 s4) := rfl
theorem e_X1_tryCase__4 (x1 : Int32) (x2 : Int32) (v1 : Int32) (s4 : wg_M) (v5 : Int32) : q_X1_tryCase__4 x1 x2 v1 s4 v5 = wg_sa 10 s4 16 x2 (v5 + (1 : Int32)) (q_X1_tryCase__5 x1 x2 v1) := rfl
theorem e_X1_tryCase__5 (x1 : Int32) (x2 : Int32) (v1 : Int32) (s6 : wg_M) : q_X1_tryCase__5 x1 x2 v1 s6 = wg_ga 10 (s6 14) x2 (q_X1_tryCase__6 x1 v1 s6) := rfl
theorem e_X1_tryCase__6 (x1 : Int32) (v1 : Int32) (s6 : wg_M) (v7 : Int32) : q_X1_tryCase__6 x1 v1 s6 v7 = wg_bd (f_X9_has 2 v7 s6) (q_X1_tryCase__7 x1 v1 v7) := rfl
theorem e_X1_tryCase__7 (x1 : Int32) (v1 : Int32) (v7 : Int32) (v8 : Int32) (s9 : wg_M) : q_X1_tryCase__7 x1 v1 v7 v8 s9 = if v8 = 0 then (f_X1_tryCase_129  279 x1 v1 s9) else (wg_ga 8 (s9 7) v7 (q_X1_tryCase__8 x1 v1 v7 s9)) := rfl
theorem e_X1_tryCase__8 (x1 : Int32) (v1 : Int32) (v7 : Int32) (s9 : wg_M) (v10 : Int32) : q_X1_tryCase__8 x1 v1 v7 s9 v10 = if v10 < (8 : Int32) then (f_X1_tryCase_96  279 x1 v1 v7 s9) else (wg_bd (f_X9_lightestRule 2 v7 s9) (q_X1_tryCase__9 x1 v1 v7)) := rfl
theorem e_X1_tryCase__9 (x1 : Int32) (v1 : Int32) (v7 : Int32) (v11 : Int32) (s12 : wg_M) : q_X1_tryCase__9 x1 v1 v7 v11 s12 = wg_bd (f_X9_dropRule 2 v7 v11 s12) (q_X1_tryCase__10 x1 v1 v7) := rfl
theorem e_X1_tryCase__10 (x1 : Int32) (v1 : Int32) (v7 : Int32) (_u10 : Int32) (s13 : wg_M) : q_X1_tryCase__10 x1 v1 v7 _u10 s13 = f_X1_tryCase_96  279 x1 v1 v7 s13 := rfl
theorem e_X1_tryCase (x1 : Int32) (x2 : Int32) (σ : wg_M) : f_X1_tryCase 279 x1 x2 σ = wg_bd (f_X1_verdictOf 279 x1 x2 σ) (q_X1_tryCase__1 x1 x2) := by
  unfold f_X1_tryCase
  simp only [sc_n7, sc_n14, sc_n16, sc_n19, sc_n20, sc_r1_4, sc_r1_5, sc_r2_4, sc_r11_2, sc_r11_4, sc_r279_1, sc_r279_2, sc_r279_3]
  rfl
def q_X2_wearer_2__2 (n : Nat) (x1 : Int32) (σ : wg_M) (v2 : Int32) : Option (Int32 × wg_M) := f_X2_wearer_2  n 11 x1 v2 σ
def q_X2_wearer_2__1 (n : Nat) (x1 : Int32) (x2 : Int32) (σ : wg_M) (v1 : Int32) : Option (Int32 × wg_M) := if v1 = x1 then (some (x2, σ)) else (wg_let (x2 + (1 : Int32)) (q_X2_wearer_2__2 n x1 σ))
theorem e_X2_wearer_2__1 (n : Nat) (x1 : Int32) (x2 : Int32) (σ : wg_M) (v1 : Int32) : q_X2_wearer_2__1 n x1 x2 σ v1 = if v1 = x1 then (some (x2, σ)) else (wg_let (x2 + (1 : Int32)) (q_X2_wearer_2__2 n x1 σ)) := rfl
theorem e_X2_wearer_2__2 (n : Nat) (x1 : Int32) (σ : wg_M) (v2 : Int32) : q_X2_wearer_2__2 n x1 σ v2 = f_X2_wearer_2  n 11 x1 v2 σ := rfl
theorem e_X2_wearer_2 (n : Nat) (x1 : Int32) (x2 : Int32) (σ : wg_M) : f_X2_wearer_2 (n + 1) 11 x1 x2 σ = if (σ 11 5) ≤ x2 then (some ((-1 : Int32), σ)) else (wg_ga 10 (σ 14) x2 (q_X2_wearer_2__1 n x1 x2 σ)) := by
  rw [f_X2_wearer_2]
  simp only [sc_n14, sc_r11_2]
  rfl
theorem e_X2_wearer (x1 : Int32) (σ : wg_M) : f_X2_wearer 11 x1 σ = f_X2_wearer_2  wg_N 11 x1 (0 : Int32) σ := rfl
def q_X9_knows_2__3 (n : Nat) (x1 : Int32) (x2 : Int32) (σ : wg_M) (v3 : Int32) : Option (Int32 × wg_M) := f_X9_knows_2  n 2 x1 x2 v3 σ
def q_X9_knows_2__2 (n : Nat) (x1 : Int32) (x2 : Int32) (x3 : Int32) (σ : wg_M) (v2 : Int32) : Option (Int32 × wg_M) := if v2 = x2 then (some ((1 : Int32), σ)) else (wg_let (x3 + (1 : Int32)) (q_X9_knows_2__3 n x1 x2 σ))
def q_X9_knows_2__1 (n : Nat) (x1 : Int32) (x2 : Int32) (x3 : Int32) (σ : wg_M) (v1 : Int32) : Option (Int32 × wg_M) := if v1 ≤ x3 then (some ((0 : Int32), σ)) else (wg_ga 64 (σ 8) ((x1 * (8 : Int32)) + x3) (q_X9_knows_2__2 n x1 x2 x3 σ))
theorem e_X9_knows_2__1 (n : Nat) (x1 : Int32) (x2 : Int32) (x3 : Int32) (σ : wg_M) (v1 : Int32) : q_X9_knows_2__1 n x1 x2 x3 σ v1 = if v1 ≤ x3 then (some ((0 : Int32), σ)) else (wg_ga 64 (σ 8) ((x1 * (8 : Int32)) + x3) (q_X9_knows_2__2 n x1 x2 x3 σ)) := rfl
theorem e_X9_knows_2__2 (n : Nat) (x1 : Int32) (x2 : Int32) (x3 : Int32) (σ : wg_M) (v2 : Int32) : q_X9_knows_2__2 n x1 x2 x3 σ v2 = if v2 = x2 then (some ((1 : Int32), σ)) else (wg_let (x3 + (1 : Int32)) (q_X9_knows_2__3 n x1 x2 σ)) := rfl
theorem e_X9_knows_2__3 (n : Nat) (x1 : Int32) (x2 : Int32) (σ : wg_M) (v3 : Int32) : q_X9_knows_2__3 n x1 x2 σ v3 = f_X9_knows_2  n 2 x1 x2 v3 σ := rfl
theorem e_X9_knows_2 (n : Nat) (x1 : Int32) (x2 : Int32) (x3 : Int32) (σ : wg_M) : f_X9_knows_2 (n + 1) 2 x1 x2 x3 σ = wg_ga 8 (σ 7) x1 (q_X9_knows_2__1 n x1 x2 x3 σ) := by
  rw [f_X9_knows_2]
  simp only [sc_n7, sc_n8, sc_r2_4, sc_r2_5]
  rfl
theorem e_X9_knows (x1 : Int32) (x2 : Int32) (σ : wg_M) : f_X9_knows 2 x1 x2 σ = f_X9_knows_2  wg_N 2 x1 x2 (0 : Int32) σ := rfl
theorem e_X11_within (x0 : Int32) (x1 : Int32) (x2 : Int32) (σ : wg_M) : f_X11_within x0 x1 x2 σ = if x0 < x1 then (some ((0 : Int32), σ)) else (if x2 < x0 then (some ((0 : Int32), σ)) else (some ((1 : Int32), σ))) := rfl
def q_X1_canDo__6 (v10 : Int32) (s11 : wg_M) : Option (Int32 × wg_M) := wg_bz v10 (some (v10, s11))
def q_X1_canDo__5 (v8 : Int32) (s9 : wg_M) : Option (Int32 × wg_M) := wg_bz v8 (some (v8, s9))
def q_X1_canDo__4 (v6 : Int32) (s7 : wg_M) : Option (Int32 × wg_M) := if v6 = (-1 : Int32) then (some ((0 : Int32), s7)) else (some ((1 : Int32), s7))
def q_X1_canDo__3 (s4 : wg_M) (v5 : Int32) : Option (Int32 × wg_M) := if v5 = (-1 : Int32) then (some ((1 : Int32), s4)) else (some ((0 : Int32), s4))
def q_X1_canDo__2 (x3 : Int32) (v3 : Int32) (s4 : wg_M) : Option (Int32 × wg_M) := if v3 = 0 then (some ((0 : Int32), s4)) else (wg_ga 10 (s4 14) x3 (q_X1_canDo__3 s4))
def q_X1_canDo__1 (x1 : Int32) (x2 : Int32) (x3 : Int32) (v1 : Int32) (s2 : wg_M) : Option (Int32 × wg_M) := if v1 = 0 then (some ((0 : Int32), s2)) else (wg_sw x1 (0) [wg_bd (f_X2_lives 11 x3 s2) (q_X1_canDo__2 x3), wg_bd (f_X2_wearer 11 x2 s2) q_X1_canDo__4, wg_bd (f_X9_knows 2 x2 x3 s2) q_X1_canDo__5, wg_bd (f_X11_within x3 (1 : Int32) (99 : Int32) s2) q_X1_canDo__6] (some ((0 : Int32), s2)))
theorem e_X1_canDo__1 (x1 : Int32) (x2 : Int32) (x3 : Int32) (v1 : Int32) (s2 : wg_M) : q_X1_canDo__1 x1 x2 x3 v1 s2 = if v1 = 0 then (some ((0 : Int32), s2)) else (wg_sw x1 (0) [wg_bd (f_X2_lives 11 x3 s2) (q_X1_canDo__2 x3), wg_bd (f_X2_wearer 11 x2 s2) q_X1_canDo__4, wg_bd (f_X9_knows 2 x2 x3 s2) q_X1_canDo__5, wg_bd (f_X11_within x3 (1 : Int32) (99 : Int32) s2) q_X1_canDo__6] (some ((0 : Int32), s2))) := rfl
theorem e_X1_canDo__2 (x3 : Int32) (v3 : Int32) (s4 : wg_M) : q_X1_canDo__2 x3 v3 s4 = if v3 = 0 then (some ((0 : Int32), s4)) else (wg_ga 10 (s4 14) x3 (q_X1_canDo__3 s4)) := rfl
theorem e_X1_canDo__3 (s4 : wg_M) (v5 : Int32) : q_X1_canDo__3 s4 v5 = if v5 = (-1 : Int32) then (some ((1 : Int32), s4)) else (some ((0 : Int32), s4)) := rfl
theorem e_X1_canDo__4 (v6 : Int32) (s7 : wg_M) : q_X1_canDo__4 v6 s7 = if v6 = (-1 : Int32) then (some ((0 : Int32), s7)) else (some ((1 : Int32), s7)) := rfl
theorem e_X1_canDo__5 (v8 : Int32) (s9 : wg_M) : q_X1_canDo__5 v8 s9 = wg_bz v8 (some (v8, s9)) := rfl
theorem e_X1_canDo__6 (v10 : Int32) (s11 : wg_M) : q_X1_canDo__6 v10 s11 = wg_bz v10 (some (v10, s11)) := rfl
theorem e_X1_canDo (x1 : Int32) (x2 : Int32) (x3 : Int32) (σ : wg_M) : f_X1_canDo 279 x1 x2 x3 σ = wg_bd (f_X9_has 2 x2 σ) (q_X1_canDo__1 x1 x2 x3) := by
  unfold f_X1_canDo
  simp only [sc_n14, sc_r11_2, sc_r279_2, sc_r279_3]
  rfl
def q_X1_takeOff__2 (s3 : wg_M) : Option (Int32 × wg_M) := some (0, s3)
def q_X1_takeOff__1 (v1 : Int32) (s2 : wg_M) : Option (Int32 × wg_M) := if v1 = (-1 : Int32) then (some (0, s2)) else (wg_sa 10 s2 14 v1 (-1 : Int32) q_X1_takeOff__2)
theorem e_X1_takeOff__1 (v1 : Int32) (s2 : wg_M) : q_X1_takeOff__1 v1 s2 = if v1 = (-1 : Int32) then (some (0, s2)) else (wg_sa 10 s2 14 v1 (-1 : Int32) q_X1_takeOff__2) := rfl
theorem e_X1_takeOff__2 (s3 : wg_M) : q_X1_takeOff__2 s3 = some (0, s3) := rfl
theorem e_X1_takeOff (x1 : Int32) (σ : wg_M) : f_X1_takeOff 279 x1 σ = wg_bd (f_X2_wearer 11 x1 σ) q_X1_takeOff__1 := by
  unfold f_X1_takeOff
  simp only [sc_n14, sc_r11_2, sc_r279_3]
  rfl
def q_X1_putOn__5 (_u5 : Int32) (s5 : wg_M) : Option (Int32 × wg_M) := some (0, s5)
def q_X1_putOn__4 (x1 : Int32) (x2 : Int32) (s4 : wg_M) : Option (Int32 × wg_M) := wg_bd (f_X1_note 279 (1 : Int32) x1 x2 s4) q_X1_putOn__5
def q_X1_putOn__3 (x1 : Int32) (x2 : Int32) (s2 : wg_M) (v3 : Int32) : Option (Int32 × wg_M) := wg_sa 8 s2 6 x1 (v3 + (1 : Int32)) (q_X1_putOn__4 x1 x2)
def q_X1_putOn__2 (x1 : Int32) (x2 : Int32) (s2 : wg_M) : Option (Int32 × wg_M) := wg_ga 8 (s2 6) x1 (q_X1_putOn__3 x1 x2 s2)
def q_X1_putOn__1 (x1 : Int32) (x2 : Int32) (_u1 : Int32) (s1 : wg_M) : Option (Int32 × wg_M) := wg_sa 10 s1 14 x2 x1 (q_X1_putOn__2 x1 x2)
theorem e_X1_putOn__1 (x1 : Int32) (x2 : Int32) (_u1 : Int32) (s1 : wg_M) : q_X1_putOn__1 x1 x2 _u1 s1 = wg_sa 10 s1 14 x2 x1 (q_X1_putOn__2 x1 x2) := rfl
theorem e_X1_putOn__2 (x1 : Int32) (x2 : Int32) (s2 : wg_M) : q_X1_putOn__2 x1 x2 s2 = wg_ga 8 (s2 6) x1 (q_X1_putOn__3 x1 x2 s2) := rfl
theorem e_X1_putOn__3 (x1 : Int32) (x2 : Int32) (s2 : wg_M) (v3 : Int32) : q_X1_putOn__3 x1 x2 s2 v3 = wg_sa 8 s2 6 x1 (v3 + (1 : Int32)) (q_X1_putOn__4 x1 x2) := rfl
theorem e_X1_putOn__4 (x1 : Int32) (x2 : Int32) (s4 : wg_M) : q_X1_putOn__4 x1 x2 s4 = wg_bd (f_X1_note 279 (1 : Int32) x1 x2 s4) q_X1_putOn__5 := rfl
theorem e_X1_putOn__5 (_u5 : Int32) (s5 : wg_M) : q_X1_putOn__5 _u5 s5 = some (0, s5) := rfl
theorem e_X1_putOn (x1 : Int32) (x2 : Int32) (σ : wg_M) : f_X1_putOn 279 x1 x2 σ = wg_bd (f_X1_takeOff 279 x1 σ) (q_X1_putOn__1 x1 x2) := by
  unfold f_X1_putOn
  simp only [sc_n6, sc_n14, sc_r2_3, sc_r11_2, sc_r279_2, sc_r279_3]
  rfl
def q_X9_dropCause_50__1 (k11 : Nat → Int32 → Int32 → Int32 → Int32 → Int32 → wg_M → Option (Int32 × wg_M)) (x1 : Int32) (x2 : Int32) (x3 : Int32) (x4 : Int32) (σ : wg_M) (v1 : Int32) : Option (Int32 × wg_M) := k11 2 x1 x2 x3 x4 v1 σ
theorem e_X9_dropCause_50__1 (k11 : Nat → Int32 → Int32 → Int32 → Int32 → Int32 → wg_M → Option (Int32 × wg_M)) (x1 : Int32) (x2 : Int32) (x3 : Int32) (x4 : Int32) (σ : wg_M) (v1 : Int32) : q_X9_dropCause_50__1 k11 x1 x2 x3 x4 σ v1 = k11 2 x1 x2 x3 x4 v1 σ := rfl
theorem e_X9_dropCause_50 (k11 : Nat → Int32 → Int32 → Int32 → Int32 → Int32 → wg_M → Option (Int32 × wg_M)) (x1 : Int32) (x2 : Int32) (x3 : Int32) (x4 : Int32) (x5 : Int32) (σ : wg_M) : f_X9_dropCause_50 k11 2 x1 x2 x3 x4 x5 σ = wg_let (x5 + (1 : Int32)) (q_X9_dropCause_50__1 k11 x1 x2 x3 x4 σ) := rfl
def q_X9_dropCause_11__8 (n : Nat) (x1 : Int32) (x2 : Int32) (x3 : Int32) (x5 : Int32) (s7 : wg_M) (v8 : Int32) : Option (Int32 × wg_M) := f_X9_dropCause_50 (f_X9_dropCause_11  n) 2 x1 x2 x3 v8 x5 s7
def q_X9_dropCause_11__7 (n : Nat) (x1 : Int32) (x2 : Int32) (x3 : Int32) (x4 : Int32) (x5 : Int32) (_u7 : Int32) (s7 : wg_M) : Option (Int32 × wg_M) := wg_let (x4 + (1 : Int32)) (q_X9_dropCause_11__8 n x1 x2 x3 x5 s7)
def q_X9_dropCause_11__6 (n : Nat) (x1 : Int32) (x2 : Int32) (x3 : Int32) (x4 : Int32) (x5 : Int32) (σ : wg_M) (v6 : Int32) : Option (Int32 × wg_M) := if v6 = x2 then (f_X9_dropCause_50 (f_X9_dropCause_11  n) 2 x1 x2 x3 x4 x5 σ) else (wg_bd (f_X9_moveRule 2 (x3 + x5) (x3 + x4) σ) (q_X9_dropCause_11__7 n x1 x2 x3 x4 x5))
def q_X9_dropCause_11__5 (v3 : Int32) (_u5 : Int32) (s5 : wg_M) : Option (Int32 × wg_M) := some (v3, s5)
def q_X9_dropCause_11__4 (x1 : Int32) (v3 : Int32) (s4 : wg_M) : Option (Int32 × wg_M) := wg_bd (f_X9_itchAnew 2 x1 s4) (q_X9_dropCause_11__5 v3)
def q_X9_dropCause_11__3 (x1 : Int32) (x4 : Int32) (σ : wg_M) (v3 : Int32) : Option (Int32 × wg_M) := wg_sa 8 σ 7 x1 x4 (q_X9_dropCause_11__4 x1 v3)
def q_X9_dropCause_11__2 (x1 : Int32) (x4 : Int32) (σ : wg_M) (v2 : Int32) : Option (Int32 × wg_M) := wg_let (v2 - x4) (q_X9_dropCause_11__3 x1 x4 σ)
def q_X9_dropCause_11__1 (n : Nat) (x1 : Int32) (x2 : Int32) (x3 : Int32) (x4 : Int32) (x5 : Int32) (σ : wg_M) (v1 : Int32) : Option (Int32 × wg_M) := if v1 ≤ x5 then (wg_ga 8 (σ 7) x1 (q_X9_dropCause_11__2 x1 x4 σ)) else (wg_ga 64 (σ 8) (x3 + x5) (q_X9_dropCause_11__6 n x1 x2 x3 x4 x5 σ))
theorem e_X9_dropCause_11__1 (n : Nat) (x1 : Int32) (x2 : Int32) (x3 : Int32) (x4 : Int32) (x5 : Int32) (σ : wg_M) (v1 : Int32) : q_X9_dropCause_11__1 n x1 x2 x3 x4 x5 σ v1 = if v1 ≤ x5 then (wg_ga 8 (σ 7) x1 (q_X9_dropCause_11__2 x1 x4 σ)) else (wg_ga 64 (σ 8) (x3 + x5) (q_X9_dropCause_11__6 n x1 x2 x3 x4 x5 σ)) := rfl
theorem e_X9_dropCause_11__2 (x1 : Int32) (x4 : Int32) (σ : wg_M) (v2 : Int32) : q_X9_dropCause_11__2 x1 x4 σ v2 = wg_let (v2 - x4) (q_X9_dropCause_11__3 x1 x4 σ) := rfl
theorem e_X9_dropCause_11__3 (x1 : Int32) (x4 : Int32) (σ : wg_M) (v3 : Int32) : q_X9_dropCause_11__3 x1 x4 σ v3 = wg_sa 8 σ 7 x1 x4 (q_X9_dropCause_11__4 x1 v3) := rfl
theorem e_X9_dropCause_11__4 (x1 : Int32) (v3 : Int32) (s4 : wg_M) : q_X9_dropCause_11__4 x1 v3 s4 = wg_bd (f_X9_itchAnew 2 x1 s4) (q_X9_dropCause_11__5 v3) := rfl
theorem e_X9_dropCause_11__5 (v3 : Int32) (_u5 : Int32) (s5 : wg_M) : q_X9_dropCause_11__5 v3 _u5 s5 = some (v3, s5) := rfl
theorem e_X9_dropCause_11__6 (n : Nat) (x1 : Int32) (x2 : Int32) (x3 : Int32) (x4 : Int32) (x5 : Int32) (σ : wg_M) (v6 : Int32) : q_X9_dropCause_11__6 n x1 x2 x3 x4 x5 σ v6 = if v6 = x2 then (f_X9_dropCause_50 (f_X9_dropCause_11  n) 2 x1 x2 x3 x4 x5 σ) else (wg_bd (f_X9_moveRule 2 (x3 + x5) (x3 + x4) σ) (q_X9_dropCause_11__7 n x1 x2 x3 x4 x5)) := rfl
theorem e_X9_dropCause_11__7 (n : Nat) (x1 : Int32) (x2 : Int32) (x3 : Int32) (x4 : Int32) (x5 : Int32) (_u7 : Int32) (s7 : wg_M) : q_X9_dropCause_11__7 n x1 x2 x3 x4 x5 _u7 s7 = wg_let (x4 + (1 : Int32)) (q_X9_dropCause_11__8 n x1 x2 x3 x5 s7) := rfl
theorem e_X9_dropCause_11__8 (n : Nat) (x1 : Int32) (x2 : Int32) (x3 : Int32) (x5 : Int32) (s7 : wg_M) (v8 : Int32) : q_X9_dropCause_11__8 n x1 x2 x3 x5 s7 v8 = f_X9_dropCause_50 (f_X9_dropCause_11  n) 2 x1 x2 x3 v8 x5 s7 := rfl
theorem e_X9_dropCause_11 (n : Nat) (x1 : Int32) (x2 : Int32) (x3 : Int32) (x4 : Int32) (x5 : Int32) (σ : wg_M) : f_X9_dropCause_11 (n + 1) 2 x1 x2 x3 x4 x5 σ = wg_ga 8 (σ 7) x1 (q_X9_dropCause_11__1 n x1 x2 x3 x4 x5 σ) := by
  rw [f_X9_dropCause_11]
  simp only [sc_n7, sc_n8, sc_r2_4, sc_r2_5]
  rfl
def q_X9_dropCause__1 (x1 : Int32) (x2 : Int32) (σ : wg_M) (v1 : Int32) : Option (Int32 × wg_M) := f_X9_dropCause_11  wg_N 2 x1 x2 v1 (0 : Int32) (0 : Int32) σ
theorem e_X9_dropCause__1 (x1 : Int32) (x2 : Int32) (σ : wg_M) (v1 : Int32) : q_X9_dropCause__1 x1 x2 σ v1 = f_X9_dropCause_11  wg_N 2 x1 x2 v1 (0 : Int32) (0 : Int32) σ := rfl
theorem e_X9_dropCause (x1 : Int32) (x2 : Int32) (σ : wg_M) : f_X9_dropCause 2 x1 x2 σ = wg_let (x1 * (8 : Int32)) (q_X9_dropCause__1 x1 x2 σ) := rfl
def q_X9_weigh_2__6 (n : Nat) (x1 : Int32) (x2 : Int32) (s6 : wg_M) (v7 : Int32) : Option (Int32 × wg_M) := f_X9_weigh_2  n 2 x1 x2 v7 s6
def q_X9_weigh_2__5 (n : Nat) (x1 : Int32) (x2 : Int32) (x3 : Int32) (s6 : wg_M) : Option (Int32 × wg_M) := wg_let (x3 + (1 : Int32)) (q_X9_weigh_2__6 n x1 x2 s6)
def q_X9_weigh_2__4 (n : Nat) (x1 : Int32) (x2 : Int32) (x3 : Int32) (v2 : Int32) (v4 : Int32) (s5 : wg_M) : Option (Int32 × wg_M) := wg_sa 64 s5 10 v2 v4 (q_X9_weigh_2__5 n x1 x2 x3)
def q_X9_weigh_2__3 (n : Nat) (x1 : Int32) (x2 : Int32) (x3 : Int32) (σ : wg_M) (v2 : Int32) (v3 : Int32) : Option (Int32 × wg_M) := wg_bd (f_X11_held (v3 + x2) (1 : Int32) (99 : Int32) σ) (q_X9_weigh_2__4 n x1 x2 x3 v2)
def q_X9_weigh_2__2 (n : Nat) (x1 : Int32) (x2 : Int32) (x3 : Int32) (σ : wg_M) (v2 : Int32) : Option (Int32 × wg_M) := wg_ga 64 (σ 10) v2 (q_X9_weigh_2__3 n x1 x2 x3 σ v2)
def q_X9_weigh_2__1 (n : Nat) (x1 : Int32) (x2 : Int32) (x3 : Int32) (σ : wg_M) (v1 : Int32) : Option (Int32 × wg_M) := if v1 ≤ x3 then (some (0, σ)) else (wg_let ((x1 * (8 : Int32)) + x3) (q_X9_weigh_2__2 n x1 x2 x3 σ))
theorem e_X9_weigh_2__1 (n : Nat) (x1 : Int32) (x2 : Int32) (x3 : Int32) (σ : wg_M) (v1 : Int32) : q_X9_weigh_2__1 n x1 x2 x3 σ v1 = if v1 ≤ x3 then (some (0, σ)) else (wg_let ((x1 * (8 : Int32)) + x3) (q_X9_weigh_2__2 n x1 x2 x3 σ)) := rfl
theorem e_X9_weigh_2__2 (n : Nat) (x1 : Int32) (x2 : Int32) (x3 : Int32) (σ : wg_M) (v2 : Int32) : q_X9_weigh_2__2 n x1 x2 x3 σ v2 = wg_ga 64 (σ 10) v2 (q_X9_weigh_2__3 n x1 x2 x3 σ v2) := rfl
theorem e_X9_weigh_2__3 (n : Nat) (x1 : Int32) (x2 : Int32) (x3 : Int32) (σ : wg_M) (v2 : Int32) (v3 : Int32) : q_X9_weigh_2__3 n x1 x2 x3 σ v2 v3 = wg_bd (f_X11_held (v3 + x2) (1 : Int32) (99 : Int32) σ) (q_X9_weigh_2__4 n x1 x2 x3 v2) := rfl
theorem e_X9_weigh_2__4 (n : Nat) (x1 : Int32) (x2 : Int32) (x3 : Int32) (v2 : Int32) (v4 : Int32) (s5 : wg_M) : q_X9_weigh_2__4 n x1 x2 x3 v2 v4 s5 = wg_sa 64 s5 10 v2 v4 (q_X9_weigh_2__5 n x1 x2 x3) := rfl
theorem e_X9_weigh_2__5 (n : Nat) (x1 : Int32) (x2 : Int32) (x3 : Int32) (s6 : wg_M) : q_X9_weigh_2__5 n x1 x2 x3 s6 = wg_let (x3 + (1 : Int32)) (q_X9_weigh_2__6 n x1 x2 s6) := rfl
theorem e_X9_weigh_2__6 (n : Nat) (x1 : Int32) (x2 : Int32) (s6 : wg_M) (v7 : Int32) : q_X9_weigh_2__6 n x1 x2 s6 v7 = f_X9_weigh_2  n 2 x1 x2 v7 s6 := rfl
theorem e_X9_weigh_2 (n : Nat) (x1 : Int32) (x2 : Int32) (x3 : Int32) (σ : wg_M) : f_X9_weigh_2 (n + 1) 2 x1 x2 x3 σ = wg_ga 8 (σ 7) x1 (q_X9_weigh_2__1 n x1 x2 x3 σ) := by
  rw [f_X9_weigh_2]
  simp only [sc_n7, sc_n10, sc_r2_4, sc_r2_7]
  rfl
theorem e_X9_weigh (x1 : Int32) (x2 : Int32) (σ : wg_M) : f_X9_weigh 2 x1 x2 σ = f_X9_weigh_2  wg_N 2 x1 x2 (0 : Int32) σ := rfl
def q_X1_doTo__8 (_u8 : Int32) (s10 : wg_M) : Option (Int32 × wg_M) := some (0, s10)
def q_X1_doTo__7 (x2 : Int32) (s9 : wg_M) : Option (Int32 × wg_M) := wg_bd (f_X9_weigh 2 x2 (-1 : Int32) s9) q_X1_doTo__8
def q_X1_doTo__6 (x2 : Int32) (v7 : Int32) (s8 : wg_M) : Option (Int32 × wg_M) := wg_sa 8 s8 4 x2 v7 (q_X1_doTo__7 x2)
def q_X1_doTo__5 (x2 : Int32) (x3 : Int32) (σ : wg_M) (v6 : Int32) : Option (Int32 × wg_M) := wg_bd (f_J9_min_7cf53 (99 : Int32) (v6 + x3) σ) (q_X1_doTo__6 x2)
def q_X1_doTo__4 (_u4 : Int32) (s5 : wg_M) : Option (Int32 × wg_M) := some (0, s5)
def q_X1_doTo__3 (x2 : Int32) (v3 : Int32) (s4 : wg_M) : Option (Int32 × wg_M) := wg_bd (f_X1_note 279 (4 : Int32) x2 v3 s4) q_X1_doTo__4
def q_X1_doTo__2 (_u2 : Int32) (s2 : wg_M) : Option (Int32 × wg_M) := some (0, s2)
def q_X1_doTo__1 (_u1 : Int32) (s1 : wg_M) : Option (Int32 × wg_M) := some (0, s1)
theorem e_X1_doTo__1 (_u1 : Int32) (s1 : wg_M) : q_X1_doTo__1 _u1 s1 = some (0, s1) := rfl
theorem e_X1_doTo__2 (_u2 : Int32) (s2 : wg_M) : q_X1_doTo__2 _u2 s2 = some (0, s2) := rfl
theorem e_X1_doTo__3 (x2 : Int32) (v3 : Int32) (s4 : wg_M) : q_X1_doTo__3 x2 v3 s4 = wg_bd (f_X1_note 279 (4 : Int32) x2 v3 s4) q_X1_doTo__4 := rfl
theorem e_X1_doTo__4 (_u4 : Int32) (s5 : wg_M) : q_X1_doTo__4 _u4 s5 = some (0, s5) := rfl
theorem e_X1_doTo__5 (x2 : Int32) (x3 : Int32) (σ : wg_M) (v6 : Int32) : q_X1_doTo__5 x2 x3 σ v6 = wg_bd (f_J9_min_7cf53 (99 : Int32) (v6 + x3) σ) (q_X1_doTo__6 x2) := rfl
theorem e_X1_doTo__6 (x2 : Int32) (v7 : Int32) (s8 : wg_M) : q_X1_doTo__6 x2 v7 s8 = wg_sa 8 s8 4 x2 v7 (q_X1_doTo__7 x2) := rfl
theorem e_X1_doTo__7 (x2 : Int32) (s9 : wg_M) : q_X1_doTo__7 x2 s9 = wg_bd (f_X9_weigh 2 x2 (-1 : Int32) s9) q_X1_doTo__8 := rfl
theorem e_X1_doTo__8 (_u8 : Int32) (s10 : wg_M) : q_X1_doTo__8 _u8 s10 = some (0, s10) := rfl
theorem e_X1_doTo (x1 : Int32) (x2 : Int32) (x3 : Int32) (σ : wg_M) : f_X1_doTo 279 x1 x2 x3 σ = wg_sw x1 (0) [wg_bd (f_X1_putOn 279 x2 x3 σ) q_X1_doTo__1, wg_bd (f_X1_takeOff 279 x2 σ) q_X1_doTo__2, wg_bd (f_X9_dropCause 2 x2 x3 σ) (q_X1_doTo__3 x2)] (wg_ga 8 (σ 4) x2 (q_X1_doTo__5 x2 x3 σ)) := by
  unfold f_X1_doTo
  simp only [sc_n4, sc_r2_1, sc_r279_2]
  rfl
theorem e_X1_growsOldAndDies_96 (σ : wg_M) : f_X1_growsOldAndDies_96 σ = some ((1 : Int32), σ) := rfl
def q_X1_growsOldAndDies_78__1 (σ : wg_M) (v1 : Int32) : Option (Int32 × wg_M) := if v1 = (120 : Int32) then (f_X1_growsOldAndDies_96   σ) else (some ((0 : Int32), σ))
theorem e_X1_growsOldAndDies_78__1 (σ : wg_M) (v1 : Int32) : q_X1_growsOldAndDies_78__1 σ v1 = if v1 = (120 : Int32) then (f_X1_growsOldAndDies_96   σ) else (some ((0 : Int32), σ)) := rfl
theorem e_X1_growsOldAndDies_78 (x1 : Int32) (x3 : Int32) (σ : wg_M) : f_X1_growsOldAndDies_78 279 x1 x3 σ = if x3 = 0 then (wg_ga 10 (σ 12) x1 (q_X1_growsOldAndDies_78__1 σ)) else (f_X1_growsOldAndDies_96   σ) := by
  unfold f_X1_growsOldAndDies_78
  simp only [sc_n12, sc_r11_0, sc_r279_3]
  rfl
theorem e_X1_growsOldAndDies_50 (x1 : Int32) (t0 : Int32) (σ : wg_M) : f_X1_growsOldAndDies_50 279 x1 t0 σ = f_X1_growsOldAndDies_78  279 x1 t0 σ := rfl
theorem e_X1_growsOldAndDies_77 (x1 : Int32) (t0 : Int32) (σ : wg_M) : f_X1_growsOldAndDies_77 279 x1 t0 σ = f_X1_growsOldAndDies_78  279 x1 t0 σ := rfl
theorem e_X1_growsOldAndDies_76 (x1 : Int32) (σ : wg_M) : f_X1_growsOldAndDies_76 279 x1 σ = f_X1_growsOldAndDies_77  279 x1 (0 : Int32) σ := rfl
def q_X1_growsOldAndDies__5 (x1 : Int32) (v5 : Int32) (v7 : Int32) (s8 : wg_M) : Option (Int32 × wg_M) := if v5 ≤ v7 then (f_X1_growsOldAndDies_76  279 x1 s8) else (f_X1_growsOldAndDies_77  279 x1 (1 : Int32) s8)
def q_X1_growsOldAndDies__4 (x1 : Int32) (v5 : Int32) (s6 : wg_M) : Option (Int32 × wg_M) := if (s6 279 6) = 0 then (if v5 ≤ 0 then (f_X1_growsOldAndDies_76  279 x1 s6) else (wg_bd (f_X0_draw 1 (1000 : Int32) s6) (q_X1_growsOldAndDies__5 x1 v5))) else (if v5 < (500 : Int32) then (f_X1_growsOldAndDies_50  279 x1 (0 : Int32) s6) else (f_X1_growsOldAndDies_50  279 x1 (1 : Int32) s6))
def q_X1_growsOldAndDies__3 (x1 : Int32) (s4 : wg_M) : Option (Int32 × wg_M) := wg_bd (f_X1_diesOf 279 x1 s4) (q_X1_growsOldAndDies__4 x1)
def q_X1_growsOldAndDies__2 (x1 : Int32) (v2 : Int32) (s3 : wg_M) : Option (Int32 × wg_M) := wg_sa 10 s3 12 x1 v2 (q_X1_growsOldAndDies__3 x1)
def q_X1_growsOldAndDies__1 (x1 : Int32) (σ : wg_M) (v1 : Int32) : Option (Int32 × wg_M) := wg_bd (f_J9_min_7cf53 (120 : Int32) (v1 + (1 : Int32)) σ) (q_X1_growsOldAndDies__2 x1)
theorem e_X1_growsOldAndDies__1 (x1 : Int32) (σ : wg_M) (v1 : Int32) : q_X1_growsOldAndDies__1 x1 σ v1 = wg_bd (f_J9_min_7cf53 (120 : Int32) (v1 + (1 : Int32)) σ) (q_X1_growsOldAndDies__2 x1) := rfl
theorem e_X1_growsOldAndDies__2 (x1 : Int32) (v2 : Int32) (s3 : wg_M) : q_X1_growsOldAndDies__2 x1 v2 s3 = wg_sa 10 s3 12 x1 v2 (q_X1_growsOldAndDies__3 x1) := rfl
theorem e_X1_growsOldAndDies__3 (x1 : Int32) (s4 : wg_M) : q_X1_growsOldAndDies__3 x1 s4 = wg_bd (f_X1_diesOf 279 x1 s4) (q_X1_growsOldAndDies__4 x1) := rfl
theorem e_X1_growsOldAndDies__4 (x1 : Int32) (v5 : Int32) (s6 : wg_M) : q_X1_growsOldAndDies__4 x1 v5 s6 = if (s6 279 6) = 0 then (if v5 ≤ 0 then (f_X1_growsOldAndDies_76  279 x1 s6) else (wg_bd (f_X0_draw 1 (1000 : Int32) s6) (q_X1_growsOldAndDies__5 x1 v5))) else (if v5 < (500 : Int32) then (f_X1_growsOldAndDies_50  279 x1 (0 : Int32) s6) else (f_X1_growsOldAndDies_50  279 x1 (1 : Int32) s6)) := rfl
theorem e_X1_growsOldAndDies__5 (x1 : Int32) (v5 : Int32) (v7 : Int32) (s8 : wg_M) : q_X1_growsOldAndDies__5 x1 v5 v7 s8 = if v5 ≤ v7 then (f_X1_growsOldAndDies_76  279 x1 s8) else (f_X1_growsOldAndDies_77  279 x1 (1 : Int32) s8) := rfl
theorem e_X1_growsOldAndDies (x1 : Int32) (σ : wg_M) : f_X1_growsOldAndDies 279 x1 σ = wg_ga 10 (σ 12) x1 (q_X1_growsOldAndDies__1 x1 σ) := by
  unfold f_X1_growsOldAndDies
  simp only [sc_n12, sc_r11_0, sc_r279_1, sc_r279_3]
  rfl
def q_X2_youngestBare_73__1 (k4 : Nat → Int32 → Int32 → Int32 → wg_M → Option (Int32 × wg_M)) (x1 : Int32) (x2 : Int32) (σ : wg_M) (v1 : Int32) : Option (Int32 × wg_M) := k4 11 x1 x2 v1 σ
theorem e_X2_youngestBare_73__1 (k4 : Nat → Int32 → Int32 → Int32 → wg_M → Option (Int32 × wg_M)) (x1 : Int32) (x2 : Int32) (σ : wg_M) (v1 : Int32) : q_X2_youngestBare_73__1 k4 x1 x2 σ v1 = k4 11 x1 x2 v1 σ := rfl
theorem e_X2_youngestBare_73 (k4 : Nat → Int32 → Int32 → Int32 → wg_M → Option (Int32 × wg_M)) (x1 : Int32) (x2 : Int32) (x3 : Int32) (σ : wg_M) : f_X2_youngestBare_73 k4 11 x1 x2 x3 σ = wg_let (x3 + (1 : Int32)) (q_X2_youngestBare_73__1 k4 x1 x2 σ) := rfl
theorem e_X2_youngestBare_71 (k4 : Nat → Int32 → Int32 → Int32 → wg_M → Option (Int32 × wg_M)) (x1 : Int32) (x3 : Int32) (σ : wg_M) : f_X2_youngestBare_71 k4 11 x1 x3 σ = f_X2_youngestBare_73 k4 11 x1 x3 x3 σ := rfl
def q_X2_youngestBare_44__2 (k4 : Nat → Int32 → Int32 → Int32 → wg_M → Option (Int32 × wg_M)) (x1 : Int32) (x2 : Int32) (x3 : Int32) (σ : wg_M) (v1 : Int32) (v2 : Int32) : Option (Int32 × wg_M) := if v2 ≤ v1 then (f_X2_youngestBare_73 k4 11 x1 x2 x3 σ) else (f_X2_youngestBare_71 k4 11 x1 x3 σ)
def q_X2_youngestBare_44__1 (k4 : Nat → Int32 → Int32 → Int32 → wg_M → Option (Int32 × wg_M)) (x1 : Int32) (x2 : Int32) (x3 : Int32) (σ : wg_M) (v1 : Int32) : Option (Int32 × wg_M) := wg_ga 10 (σ 12) x2 (q_X2_youngestBare_44__2 k4 x1 x2 x3 σ v1)
theorem e_X2_youngestBare_44__1 (k4 : Nat → Int32 → Int32 → Int32 → wg_M → Option (Int32 × wg_M)) (x1 : Int32) (x2 : Int32) (x3 : Int32) (σ : wg_M) (v1 : Int32) : q_X2_youngestBare_44__1 k4 x1 x2 x3 σ v1 = wg_ga 10 (σ 12) x2 (q_X2_youngestBare_44__2 k4 x1 x2 x3 σ v1) := rfl
theorem e_X2_youngestBare_44__2 (k4 : Nat → Int32 → Int32 → Int32 → wg_M → Option (Int32 × wg_M)) (x1 : Int32) (x2 : Int32) (x3 : Int32) (σ : wg_M) (v1 : Int32) (v2 : Int32) : q_X2_youngestBare_44__2 k4 x1 x2 x3 σ v1 v2 = if v2 ≤ v1 then (f_X2_youngestBare_73 k4 11 x1 x2 x3 σ) else (f_X2_youngestBare_71 k4 11 x1 x3 σ) := rfl
theorem e_X2_youngestBare_44 (k4 : Nat → Int32 → Int32 → Int32 → wg_M → Option (Int32 × wg_M)) (x1 : Int32) (x2 : Int32) (x3 : Int32) (t0 : Int32) (σ : wg_M) : f_X2_youngestBare_44 k4 11 x1 x2 x3 t0 σ = if t0 = 0 then (f_X2_youngestBare_73 k4 11 x1 x2 x3 σ) else (if x2 = (-1 : Int32) then (f_X2_youngestBare_71 k4 11 x1 x3 σ) else (wg_ga 10 (σ 12) x3 (q_X2_youngestBare_44__1 k4 x1 x2 x3 σ))) := by
  unfold f_X2_youngestBare_44
  simp only [sc_n12, sc_r11_0]
  rfl
theorem e_X2_youngestBare_43 (k4 : Nat → Int32 → Int32 → Int32 → wg_M → Option (Int32 × wg_M)) (x1 : Int32) (x2 : Int32) (x3 : Int32) (σ : wg_M) : f_X2_youngestBare_43 k4 11 x1 x2 x3 σ = f_X2_youngestBare_44 k4 11 x1 x2 x3 (0 : Int32) σ := rfl
def q_X2_youngestBare_4__2 (n : Nat) (x1 : Int32) (x2 : Int32) (x3 : Int32) (σ : wg_M) (v2 : Int32) : Option (Int32 × wg_M) := if v2 = (-1 : Int32) then (if ((x1 >>> (x3 &&& 31)) &&& (1 : Int32)) = 0 then (f_X2_youngestBare_44 (f_X2_youngestBare_4  n) 11 x1 x2 x3 (1 : Int32) σ) else (f_X2_youngestBare_43 (f_X2_youngestBare_4  n) 11 x1 x2 x3 σ)) else (f_X2_youngestBare_43 (f_X2_youngestBare_4  n) 11 x1 x2 x3 σ)
def q_X2_youngestBare_4__1 (n : Nat) (x1 : Int32) (x2 : Int32) (x3 : Int32) (σ : wg_M) (v1 : Int32) : Option (Int32 × wg_M) := if v1 = 0 then (wg_ga 10 (σ 14) x3 (q_X2_youngestBare_4__2 n x1 x2 x3 σ)) else (f_X2_youngestBare_43 (f_X2_youngestBare_4  n) 11 x1 x2 x3 σ)
theorem e_X2_youngestBare_4__1 (n : Nat) (x1 : Int32) (x2 : Int32) (x3 : Int32) (σ : wg_M) (v1 : Int32) : q_X2_youngestBare_4__1 n x1 x2 x3 σ v1 = if v1 = 0 then (wg_ga 10 (σ 14) x3 (q_X2_youngestBare_4__2 n x1 x2 x3 σ)) else (f_X2_youngestBare_43 (f_X2_youngestBare_4  n) 11 x1 x2 x3 σ) := rfl
theorem e_X2_youngestBare_4__2 (n : Nat) (x1 : Int32) (x2 : Int32) (x3 : Int32) (σ : wg_M) (v2 : Int32) : q_X2_youngestBare_4__2 n x1 x2 x3 σ v2 = if v2 = (-1 : Int32) then (if ((x1 >>> (x3 &&& 31)) &&& (1 : Int32)) = 0 then (f_X2_youngestBare_44 (f_X2_youngestBare_4  n) 11 x1 x2 x3 (1 : Int32) σ) else (f_X2_youngestBare_43 (f_X2_youngestBare_4  n) 11 x1 x2 x3 σ)) else (f_X2_youngestBare_43 (f_X2_youngestBare_4  n) 11 x1 x2 x3 σ) := rfl
theorem e_X2_youngestBare_4 (n : Nat) (x1 : Int32) (x2 : Int32) (x3 : Int32) (σ : wg_M) : f_X2_youngestBare_4 (n + 1) 11 x1 x2 x3 σ = if (σ 11 5) ≤ x3 then (some (x2, σ)) else (wg_ga 10 (σ 15) x3 (q_X2_youngestBare_4__1 n x1 x2 x3 σ)) := by
  rw [f_X2_youngestBare_4]
  simp only [sc_n14, sc_n15, sc_r11_2, sc_r11_3]
  rfl
theorem e_X2_youngestBare (x1 : Int32) (σ : wg_M) : f_X2_youngestBare 11 x1 σ = f_X2_youngestBare_4  wg_N 11 x1 (-1 : Int32) (0 : Int32) σ := rfl
def q_X1_passOn__8 (_u8 : Int32) (s9 : wg_M) : Option (Int32 × wg_M) := some (0, s9)
def q_X1_passOn__7 (_u7 : Int32) (s10 : wg_M) : Option (Int32 × wg_M) := some (0, s10)
def q_X1_passOn__6 (v1 : Int32) (v7 : Int32) (s8 : wg_M) : Option (Int32 × wg_M) := if v7 = (-1 : Int32) then (wg_bd (f_X1_takeOff 279 v1 s8) q_X1_passOn__7) else (wg_bd (f_X1_putOn 279 v1 v7 s8) q_X1_passOn__8)
def q_X1_passOn__5 (v1 : Int32) (v5 : Int32) (s6 : wg_M) : Option (Int32 × wg_M) := if v5 = 0 then (some (0, s6)) else (wg_bd (f_X2_youngestBare 11 (0 : Int32) s6) (q_X1_passOn__6 v1))
def q_X1_passOn__4 (v1 : Int32) (_u4 : Int32) (s4 : wg_M) : Option (Int32 × wg_M) := wg_bd (f_X9_has 2 v1 s4) (q_X1_passOn__5 v1)
def q_X1_passOn__3 (x1 : Int32) (v1 : Int32) (s2 : wg_M) (v3 : Int32) : Option (Int32 × wg_M) := wg_bd (f_X1_note 279 (2 : Int32) x1 v3 s2) (q_X1_passOn__4 v1)
def q_X1_passOn__2 (x1 : Int32) (v1 : Int32) (s2 : wg_M) : Option (Int32 × wg_M) := wg_ga 10 (s2 12) x1 (q_X1_passOn__3 x1 v1 s2)
def q_X1_passOn__1 (x1 : Int32) (σ : wg_M) (v1 : Int32) : Option (Int32 × wg_M) := wg_sa 10 σ 15 x1 (1 : Int32) (q_X1_passOn__2 x1 v1)
theorem e_X1_passOn__1 (x1 : Int32) (σ : wg_M) (v1 : Int32) : q_X1_passOn__1 x1 σ v1 = wg_sa 10 σ 15 x1 (1 : Int32) (q_X1_passOn__2 x1 v1) := rfl
theorem e_X1_passOn__2 (x1 : Int32) (v1 : Int32) (s2 : wg_M) : q_X1_passOn__2 x1 v1 s2 = wg_ga 10 (s2 12) x1 (q_X1_passOn__3 x1 v1 s2) := rfl
theorem e_X1_passOn__3 (x1 : Int32) (v1 : Int32) (s2 : wg_M) (v3 : Int32) : q_X1_passOn__3 x1 v1 s2 v3 = wg_bd (f_X1_note 279 (2 : Int32) x1 v3 s2) (q_X1_passOn__4 v1) := rfl
theorem e_X1_passOn__4 (v1 : Int32) (_u4 : Int32) (s4 : wg_M) : q_X1_passOn__4 v1 _u4 s4 = wg_bd (f_X9_has 2 v1 s4) (q_X1_passOn__5 v1) := rfl
theorem e_X1_passOn__5 (v1 : Int32) (v5 : Int32) (s6 : wg_M) : q_X1_passOn__5 v1 v5 s6 = if v5 = 0 then (some (0, s6)) else (wg_bd (f_X2_youngestBare 11 (0 : Int32) s6) (q_X1_passOn__6 v1)) := rfl
theorem e_X1_passOn__6 (v1 : Int32) (v7 : Int32) (s8 : wg_M) : q_X1_passOn__6 v1 v7 s8 = if v7 = (-1 : Int32) then (wg_bd (f_X1_takeOff 279 v1 s8) q_X1_passOn__7) else (wg_bd (f_X1_putOn 279 v1 v7 s8) q_X1_passOn__8) := rfl
theorem e_X1_passOn__7 (_u7 : Int32) (s10 : wg_M) : q_X1_passOn__7 _u7 s10 = some (0, s10) := rfl
theorem e_X1_passOn__8 (_u8 : Int32) (s9 : wg_M) : q_X1_passOn__8 _u8 s9 = some (0, s9) := rfl
theorem e_X1_passOn (x1 : Int32) (σ : wg_M) : f_X1_passOn 279 x1 σ = wg_ga 10 (σ 14) x1 (q_X1_passOn__1 x1 σ) := by
  unfold f_X1_passOn
  simp only [sc_n12, sc_n14, sc_n15, sc_r11_0, sc_r11_2, sc_r11_3, sc_r279_2, sc_r279_3]
  rfl
def q_X1_wearOut_81__2 (_u2 : Int32) (s3 : wg_M) : Option (Int32 × wg_M) := some (0, s3)
def q_X1_wearOut_81__1 (x1 : Int32) (v1 : Int32) (s2 : wg_M) : Option (Int32 × wg_M) := if v1 = (-1 : Int32) then (some (0, s2)) else (wg_bd (f_X9_weigh 2 x1 (1 : Int32) s2) q_X1_wearOut_81__2)
theorem e_X1_wearOut_81__1 (x1 : Int32) (v1 : Int32) (s2 : wg_M) : q_X1_wearOut_81__1 x1 v1 s2 = if v1 = (-1 : Int32) then (some (0, s2)) else (wg_bd (f_X9_weigh 2 x1 (1 : Int32) s2) q_X1_wearOut_81__2) := rfl
theorem e_X1_wearOut_81__2 (_u2 : Int32) (s3 : wg_M) : q_X1_wearOut_81__2 _u2 s3 = some (0, s3) := rfl
theorem e_X1_wearOut_81 (x1 : Int32) (σ : wg_M) : f_X1_wearOut_81 279 x1 σ = wg_bd (f_X2_wearer 11 x1 σ) (q_X1_wearOut_81__1 x1) := by
  unfold f_X1_wearOut_81
  simp only [sc_r279_2, sc_r279_3]
  rfl
def q_X1_wearOut__9 (x1 : Int32) (_u9 : Int32) (s11 : wg_M) : Option (Int32 × wg_M) := f_X1_wearOut_81  279 x1 s11
def q_X1_wearOut__8 (x1 : Int32) (v9 : Int32) (_u8 : Int32) (s10 : wg_M) : Option (Int32 × wg_M) := wg_bd (f_X1_note 279 (3 : Int32) x1 v9 s10) (q_X1_wearOut__9 x1)
def q_X1_wearOut__7 (x1 : Int32) (s6 : wg_M) (v9 : Int32) : Option (Int32 × wg_M) := wg_bd (f_X9_dropRule 2 x1 (0 : Int32) s6) (q_X1_wearOut__8 x1 v9)
def q_X1_wearOut__6 (x1 : Int32) (s6 : wg_M) (v8 : Int32) : Option (Int32 × wg_M) := if v8 ≤ 0 then (f_X1_wearOut_81  279 x1 s6) else (wg_ga 64 (s6 8) (x1 * (8 : Int32)) (q_X1_wearOut__7 x1 s6))
def q_X1_wearOut__5 (x1 : Int32) (s6 : wg_M) (v7 : Int32) : Option (Int32 × wg_M) := if v7 = 0 then (wg_ga 8 (s6 7) x1 (q_X1_wearOut__6 x1 s6)) else (f_X1_wearOut_81  279 x1 s6)
def q_X1_wearOut__4 (x1 : Int32) (s6 : wg_M) : Option (Int32 × wg_M) := wg_ga 8 (s6 4) x1 (q_X1_wearOut__5 x1 s6)
def q_X1_wearOut__3 (x1 : Int32) (v4 : Int32) (s5 : wg_M) : Option (Int32 × wg_M) := wg_sa 8 s5 4 x1 v4 (q_X1_wearOut__4 x1)
def q_X1_wearOut__2 (x1 : Int32) (v1 : Int32) (v2 : Int32) (s3 : wg_M) : Option (Int32 × wg_M) := wg_bd (f_J9_max_7cf53 (0 : Int32) (v1 - v2) s3) (q_X1_wearOut__3 x1)
def q_X1_wearOut__1 (x1 : Int32) (σ : wg_M) (v1 : Int32) : Option (Int32 × wg_M) := wg_bd (f_X1_mothOf 279 x1 σ) (q_X1_wearOut__2 x1 v1)
theorem e_X1_wearOut__1 (x1 : Int32) (σ : wg_M) (v1 : Int32) : q_X1_wearOut__1 x1 σ v1 = wg_bd (f_X1_mothOf 279 x1 σ) (q_X1_wearOut__2 x1 v1) := rfl
theorem e_X1_wearOut__2 (x1 : Int32) (v1 : Int32) (v2 : Int32) (s3 : wg_M) : q_X1_wearOut__2 x1 v1 v2 s3 = wg_bd (f_J9_max_7cf53 (0 : Int32) (v1 - v2) s3) (q_X1_wearOut__3 x1) := rfl
theorem e_X1_wearOut__3 (x1 : Int32) (v4 : Int32) (s5 : wg_M) : q_X1_wearOut__3 x1 v4 s5 = wg_sa 8 s5 4 x1 v4 (q_X1_wearOut__4 x1) := rfl
theorem e_X1_wearOut__4 (x1 : Int32) (s6 : wg_M) : q_X1_wearOut__4 x1 s6 = wg_ga 8 (s6 4) x1 (q_X1_wearOut__5 x1 s6) := rfl
theorem e_X1_wearOut__5 (x1 : Int32) (s6 : wg_M) (v7 : Int32) : q_X1_wearOut__5 x1 s6 v7 = if v7 = 0 then (wg_ga 8 (s6 7) x1 (q_X1_wearOut__6 x1 s6)) else (f_X1_wearOut_81  279 x1 s6) := rfl
theorem e_X1_wearOut__6 (x1 : Int32) (s6 : wg_M) (v8 : Int32) : q_X1_wearOut__6 x1 s6 v8 = if v8 ≤ 0 then (f_X1_wearOut_81  279 x1 s6) else (wg_ga 64 (s6 8) (x1 * (8 : Int32)) (q_X1_wearOut__7 x1 s6)) := rfl
theorem e_X1_wearOut__7 (x1 : Int32) (s6 : wg_M) (v9 : Int32) : q_X1_wearOut__7 x1 s6 v9 = wg_bd (f_X9_dropRule 2 x1 (0 : Int32) s6) (q_X1_wearOut__8 x1 v9) := rfl
theorem e_X1_wearOut__8 (x1 : Int32) (v9 : Int32) (_u8 : Int32) (s10 : wg_M) : q_X1_wearOut__8 x1 v9 _u8 s10 = wg_bd (f_X1_note 279 (3 : Int32) x1 v9 s10) (q_X1_wearOut__9 x1) := rfl
theorem e_X1_wearOut__9 (x1 : Int32) (_u9 : Int32) (s11 : wg_M) : q_X1_wearOut__9 x1 _u9 s11 = f_X1_wearOut_81  279 x1 s11 := rfl
theorem e_X1_wearOut (x1 : Int32) (σ : wg_M) : f_X1_wearOut 279 x1 σ = wg_ga 8 (σ 4) x1 (q_X1_wearOut__1 x1 σ) := by
  unfold f_X1_wearOut
  simp only [sc_n4, sc_n7, sc_n8, sc_r2_1, sc_r2_4, sc_r2_5, sc_r279_2]
  rfl
def q_X1_passYear_81__1 (k10 : Nat → Nat → Int32 → wg_M → Option (Int32 × wg_M)) (x1 : Nat) (σ : wg_M) (v1 : Int32) : Option (Int32 × wg_M) := k10 279 x1 v1 σ
theorem e_X1_passYear_81__1 (k10 : Nat → Nat → Int32 → wg_M → Option (Int32 × wg_M)) (x1 : Nat) (σ : wg_M) (v1 : Int32) : q_X1_passYear_81__1 k10 x1 σ v1 = k10 279 x1 v1 σ := rfl
theorem e_X1_passYear_81 (k10 : Nat → Nat → Int32 → wg_M → Option (Int32 × wg_M)) (x1 : Nat) (x2 : Int32) (σ : wg_M) : f_X1_passYear_81 k10 279 x1 x2 σ = wg_let (x2 + (1 : Int32)) (q_X1_passYear_81__1 k10 x1 σ) := rfl
def q_X1_passYear_156__1 (k97 : Nat → Nat → Int32 → wg_M → Option (Int32 × wg_M)) (x2 : Nat) (σ : wg_M) (v1 : Int32) : Option (Int32 × wg_M) := k97 279 x2 v1 σ
theorem e_X1_passYear_156__1 (k97 : Nat → Nat → Int32 → wg_M → Option (Int32 × wg_M)) (x2 : Nat) (σ : wg_M) (v1 : Int32) : q_X1_passYear_156__1 k97 x2 σ v1 = k97 279 x2 v1 σ := rfl
theorem e_X1_passYear_156 (k97 : Nat → Nat → Int32 → wg_M → Option (Int32 × wg_M)) (x2 : Nat) (x3 : Int32) (σ : wg_M) : f_X1_passYear_156 k97 279 x2 x3 σ = wg_let (x3 + (1 : Int32)) (q_X1_passYear_156__1 k97 x2 σ) := rfl
def q_X1_passYear_209__1 (k167 : Nat → Int32 → Int32 → wg_M → Option (Int32 × wg_M)) (x3 : Int32) (σ : wg_M) (v1 : Int32) : Option (Int32 × wg_M) := k167 279 x3 v1 σ
theorem e_X1_passYear_209__1 (k167 : Nat → Int32 → Int32 → wg_M → Option (Int32 × wg_M)) (x3 : Int32) (σ : wg_M) (v1 : Int32) : q_X1_passYear_209__1 k167 x3 σ v1 = k167 279 x3 v1 σ := rfl
theorem e_X1_passYear_209 (k167 : Nat → Int32 → Int32 → wg_M → Option (Int32 × wg_M)) (x3 : Int32) (x4 : Int32) (σ : wg_M) : f_X1_passYear_209 k167 279 x3 x4 σ = wg_let (x4 + (1 : Int32)) (q_X1_passYear_209__1 k167 x3 σ) := rfl
def q_X1_passYear_218__3 (n : Nat) (x3 : Int32) (s2 : wg_M) (v3 : Int32) : Option (Int32 × wg_M) := f_X1_passYear_218  n 279 x3 v3 s2
def q_X1_passYear_218__2 (n : Nat) (x3 : Int32) (x4 : Int32) (_u2 : Int32) (s2 : wg_M) : Option (Int32 × wg_M) := wg_let (x4 + (1 : Int32)) (q_X1_passYear_218__3 n x3 s2)
def q_X1_passYear_218__1 (x3 : Int32) (s1 : wg_M) : Option (Int32 × wg_M) := some (x3, s1)
theorem e_X1_passYear_218__1 (x3 : Int32) (s1 : wg_M) : q_X1_passYear_218__1 x3 s1 = some (x3, s1) := rfl
theorem e_X1_passYear_218__2 (n : Nat) (x3 : Int32) (x4 : Int32) (_u2 : Int32) (s2 : wg_M) : q_X1_passYear_218__2 n x3 x4 _u2 s2 = wg_let (x4 + (1 : Int32)) (q_X1_passYear_218__3 n x3 s2) := rfl
theorem e_X1_passYear_218__3 (n : Nat) (x3 : Int32) (s2 : wg_M) (v3 : Int32) : q_X1_passYear_218__3 n x3 s2 v3 = f_X1_passYear_218  n 279 x3 v3 s2 := rfl
theorem e_X1_passYear_218 (n : Nat) (x3 : Int32) (x4 : Int32) (σ : wg_M) : f_X1_passYear_218 (n + 1) 279 x3 x4 σ = if (σ 2 8) ≤ x4 then (wg_st σ 1 7 ((σ 1 7) + (1 : Int32)) (q_X1_passYear_218__1 x3)) else (wg_bd (f_X1_wearOut 279 x4 σ) (q_X1_passYear_218__2 n x3 x4)) := by
  rw [f_X1_passYear_218]
  simp only [sc_r279_1, sc_r279_2]
  rfl
def q_X1_passYear_167__4 (n : Nat) (x4 : Int32) (s5 : wg_M) (v6 : Int32) : Option (Int32 × wg_M) := f_X1_passYear_209 (f_X1_passYear_167  n) 279 v6 x4 s5
def q_X1_passYear_167__3 (n : Nat) (x3 : Int32) (x4 : Int32) (_u3 : Int32) (s5 : wg_M) : Option (Int32 × wg_M) := wg_let (x3 + (1 : Int32)) (q_X1_passYear_167__4 n x4 s5)
def q_X1_passYear_167__2 (n : Nat) (x3 : Int32) (x4 : Int32) (v3 : Int32) (s4 : wg_M) : Option (Int32 × wg_M) := if v3 = 0 then (f_X1_passYear_209 (f_X1_passYear_167  n) 279 x3 x4 s4) else (wg_bd (f_X1_passOn 279 x4 s4) (q_X1_passYear_167__3 n x3 x4))
def q_X1_passYear_167__1 (n : Nat) (x3 : Int32) (x4 : Int32) (v1 : Int32) (s2 : wg_M) : Option (Int32 × wg_M) := if v1 = 0 then (f_X1_passYear_209 (f_X1_passYear_167  n) 279 x3 x4 s2) else (wg_bd (f_X1_growsOldAndDies 279 x4 s2) (q_X1_passYear_167__2 n x3 x4))
theorem e_X1_passYear_167__1 (n : Nat) (x3 : Int32) (x4 : Int32) (v1 : Int32) (s2 : wg_M) : q_X1_passYear_167__1 n x3 x4 v1 s2 = if v1 = 0 then (f_X1_passYear_209 (f_X1_passYear_167  n) 279 x3 x4 s2) else (wg_bd (f_X1_growsOldAndDies 279 x4 s2) (q_X1_passYear_167__2 n x3 x4)) := rfl
theorem e_X1_passYear_167__2 (n : Nat) (x3 : Int32) (x4 : Int32) (v3 : Int32) (s4 : wg_M) : q_X1_passYear_167__2 n x3 x4 v3 s4 = if v3 = 0 then (f_X1_passYear_209 (f_X1_passYear_167  n) 279 x3 x4 s4) else (wg_bd (f_X1_passOn 279 x4 s4) (q_X1_passYear_167__3 n x3 x4)) := rfl
theorem e_X1_passYear_167__3 (n : Nat) (x3 : Int32) (x4 : Int32) (_u3 : Int32) (s5 : wg_M) : q_X1_passYear_167__3 n x3 x4 _u3 s5 = wg_let (x3 + (1 : Int32)) (q_X1_passYear_167__4 n x4 s5) := rfl
theorem e_X1_passYear_167__4 (n : Nat) (x4 : Int32) (s5 : wg_M) (v6 : Int32) : q_X1_passYear_167__4 n x4 s5 v6 = f_X1_passYear_209 (f_X1_passYear_167  n) 279 v6 x4 s5 := rfl
theorem e_X1_passYear_167 (n : Nat) (x3 : Int32) (x4 : Int32) (σ : wg_M) : f_X1_passYear_167 (n + 1) 279 x3 x4 σ = if (σ 11 5) ≤ x4 then (f_X1_passYear_218  wg_N 279 x3 (0 : Int32) σ) else (wg_bd (f_X2_lives 11 x4 σ) (q_X1_passYear_167__1 n x3 x4)) := by
  rw [f_X1_passYear_167]
  simp only [sc_r279_3]
  rfl
def q_X1_passYear_97__7 (n : Nat) (x2 : Nat) (x3 : Int32) (_u7 : Int32) (s8 : wg_M) : Option (Int32 × wg_M) := f_X1_passYear_156 (f_X1_passYear_97  n) 279 x2 x3 s8
def q_X1_passYear_97__6 (n : Nat) (x2 : Nat) (x3 : Int32) (s5 : wg_M) (v6 : Int32) (v7 : Int32) : Option (Int32 × wg_M) := wg_bd (f_X1_tryCase 279 v6 v7 s5) (q_X1_passYear_97__7 n x2 x3)
def q_X1_passYear_97__5 (n : Nat) (x2 : Nat) (x3 : Int32) (s5 : wg_M) (v6 : Int32) : Option (Int32 × wg_M) := wg_ga (wg_n Sc (wg_r Sc x2 3)) (s5 (wg_r Sc x2 3)) x3 (q_X1_passYear_97__6 n x2 x3 s5 v6)
def q_X1_passYear_97__4 (n : Nat) (x2 : Nat) (x3 : Int32) (v4 : Int32) (s5 : wg_M) : Option (Int32 × wg_M) := if v4 = 0 then (f_X1_passYear_156 (f_X1_passYear_97  n) 279 x2 x3 s5) else (wg_ga (wg_n Sc (wg_r Sc x2 2)) (s5 (wg_r Sc x2 2)) x3 (q_X1_passYear_97__5 n x2 x3 s5))
def q_X1_passYear_97__3 (n : Nat) (x2 : Nat) (x3 : Int32) (σ : wg_M) (v2 : Int32) (v3 : Int32) : Option (Int32 × wg_M) := wg_bd (f_X1_canTry 279 v2 v3 σ) (q_X1_passYear_97__4 n x2 x3)
def q_X1_passYear_97__2 (n : Nat) (x2 : Nat) (x3 : Int32) (σ : wg_M) (v2 : Int32) : Option (Int32 × wg_M) := wg_ga (wg_n Sc (wg_r Sc x2 3)) (σ (wg_r Sc x2 3)) x3 (q_X1_passYear_97__3 n x2 x3 σ v2)
def q_X1_passYear_97__1 (n : Nat) (x2 : Nat) (x3 : Int32) (σ : wg_M) (v1 : Int32) : Option (Int32 × wg_M) := if v1 = (σ 1 7) then (wg_ga (wg_n Sc (wg_r Sc x2 2)) (σ (wg_r Sc x2 2)) x3 (q_X1_passYear_97__2 n x2 x3 σ)) else (f_X1_passYear_156 (f_X1_passYear_97  n) 279 x2 x3 σ)
theorem e_X1_passYear_97__1 (n : Nat) (x2 : Nat) (x3 : Int32) (σ : wg_M) (v1 : Int32) : q_X1_passYear_97__1 n x2 x3 σ v1 = if v1 = (σ 1 7) then (wg_ga (wg_n Sc (wg_r Sc x2 2)) (σ (wg_r Sc x2 2)) x3 (q_X1_passYear_97__2 n x2 x3 σ)) else (f_X1_passYear_156 (f_X1_passYear_97  n) 279 x2 x3 σ) := rfl
theorem e_X1_passYear_97__2 (n : Nat) (x2 : Nat) (x3 : Int32) (σ : wg_M) (v2 : Int32) : q_X1_passYear_97__2 n x2 x3 σ v2 = wg_ga (wg_n Sc (wg_r Sc x2 3)) (σ (wg_r Sc x2 3)) x3 (q_X1_passYear_97__3 n x2 x3 σ v2) := rfl
theorem e_X1_passYear_97__3 (n : Nat) (x2 : Nat) (x3 : Int32) (σ : wg_M) (v2 : Int32) (v3 : Int32) : q_X1_passYear_97__3 n x2 x3 σ v2 v3 = wg_bd (f_X1_canTry 279 v2 v3 σ) (q_X1_passYear_97__4 n x2 x3) := rfl
theorem e_X1_passYear_97__4 (n : Nat) (x2 : Nat) (x3 : Int32) (v4 : Int32) (s5 : wg_M) : q_X1_passYear_97__4 n x2 x3 v4 s5 = if v4 = 0 then (f_X1_passYear_156 (f_X1_passYear_97  n) 279 x2 x3 s5) else (wg_ga (wg_n Sc (wg_r Sc x2 2)) (s5 (wg_r Sc x2 2)) x3 (q_X1_passYear_97__5 n x2 x3 s5)) := rfl
theorem e_X1_passYear_97__5 (n : Nat) (x2 : Nat) (x3 : Int32) (s5 : wg_M) (v6 : Int32) : q_X1_passYear_97__5 n x2 x3 s5 v6 = wg_ga (wg_n Sc (wg_r Sc x2 3)) (s5 (wg_r Sc x2 3)) x3 (q_X1_passYear_97__6 n x2 x3 s5 v6) := rfl
theorem e_X1_passYear_97__6 (n : Nat) (x2 : Nat) (x3 : Int32) (s5 : wg_M) (v6 : Int32) (v7 : Int32) : q_X1_passYear_97__6 n x2 x3 s5 v6 v7 = wg_bd (f_X1_tryCase 279 v6 v7 s5) (q_X1_passYear_97__7 n x2 x3) := rfl
theorem e_X1_passYear_97__7 (n : Nat) (x2 : Nat) (x3 : Int32) (_u7 : Int32) (s8 : wg_M) : q_X1_passYear_97__7 n x2 x3 _u7 s8 = f_X1_passYear_156 (f_X1_passYear_97  n) 279 x2 x3 s8 := rfl
theorem e_X1_passYear_97 (n : Nat) (x2 : Nat) (x3 : Int32) (σ : wg_M) : f_X1_passYear_97 (n + 1) 279 x2 x3 σ = if (σ x2 4) ≤ x3 then (f_X1_passYear_167  wg_N 279 (0 : Int32) (0 : Int32) σ) else (wg_ga (wg_n Sc (wg_r Sc x2 0)) (σ (wg_r Sc x2 0)) x3 (q_X1_passYear_97__1 n x2 x3 σ)) := by
  rw [f_X1_passYear_97]
  simp only [sc_r279_1]
  rfl
def q_X1_passYear_10__9 (n : Nat) (x1 : Nat) (x2 : Int32) (_u9 : Int32) (s10 : wg_M) : Option (Int32 × wg_M) := f_X1_passYear_81 (f_X1_passYear_10  n) 279 x1 x2 s10
def q_X1_passYear_10__8 (n : Nat) (x1 : Nat) (x2 : Int32) (s6 : wg_M) (v7 : Int32) (v8 : Int32) (v9 : Int32) : Option (Int32 × wg_M) := wg_bd (f_X1_doTo 279 v7 v8 v9 s6) (q_X1_passYear_10__9 n x1 x2)
def q_X1_passYear_10__7 (n : Nat) (x1 : Nat) (x2 : Int32) (s6 : wg_M) (v7 : Int32) (v8 : Int32) : Option (Int32 × wg_M) := wg_ga (wg_n Sc (wg_r Sc x1 3)) (s6 (wg_r Sc x1 3)) x2 (q_X1_passYear_10__8 n x1 x2 s6 v7 v8)
def q_X1_passYear_10__6 (n : Nat) (x1 : Nat) (x2 : Int32) (s6 : wg_M) (v7 : Int32) : Option (Int32 × wg_M) := wg_ga (wg_n Sc (wg_r Sc x1 2)) (s6 (wg_r Sc x1 2)) x2 (q_X1_passYear_10__7 n x1 x2 s6 v7)
def q_X1_passYear_10__5 (n : Nat) (x1 : Nat) (x2 : Int32) (v5 : Int32) (s6 : wg_M) : Option (Int32 × wg_M) := if v5 = 0 then (f_X1_passYear_81 (f_X1_passYear_10  n) 279 x1 x2 s6) else (wg_ga (wg_n Sc (wg_r Sc x1 1)) (s6 (wg_r Sc x1 1)) x2 (q_X1_passYear_10__6 n x1 x2 s6))
def q_X1_passYear_10__4 (n : Nat) (x1 : Nat) (x2 : Int32) (σ : wg_M) (v2 : Int32) (v3 : Int32) (v4 : Int32) : Option (Int32 × wg_M) := wg_bd (f_X1_canDo 279 v2 v3 v4 σ) (q_X1_passYear_10__5 n x1 x2)
def q_X1_passYear_10__3 (n : Nat) (x1 : Nat) (x2 : Int32) (σ : wg_M) (v2 : Int32) (v3 : Int32) : Option (Int32 × wg_M) := wg_ga (wg_n Sc (wg_r Sc x1 3)) (σ (wg_r Sc x1 3)) x2 (q_X1_passYear_10__4 n x1 x2 σ v2 v3)
def q_X1_passYear_10__2 (n : Nat) (x1 : Nat) (x2 : Int32) (σ : wg_M) (v2 : Int32) : Option (Int32 × wg_M) := wg_ga (wg_n Sc (wg_r Sc x1 2)) (σ (wg_r Sc x1 2)) x2 (q_X1_passYear_10__3 n x1 x2 σ v2)
def q_X1_passYear_10__1 (n : Nat) (x1 : Nat) (x2 : Int32) (σ : wg_M) (v1 : Int32) : Option (Int32 × wg_M) := if v1 = (σ 1 7) then (wg_ga (wg_n Sc (wg_r Sc x1 1)) (σ (wg_r Sc x1 1)) x2 (q_X1_passYear_10__2 n x1 x2 σ)) else (f_X1_passYear_81 (f_X1_passYear_10  n) 279 x1 x2 σ)
theorem e_X1_passYear_10__1 (n : Nat) (x1 : Nat) (x2 : Int32) (σ : wg_M) (v1 : Int32) : q_X1_passYear_10__1 n x1 x2 σ v1 = if v1 = (σ 1 7) then (wg_ga (wg_n Sc (wg_r Sc x1 1)) (σ (wg_r Sc x1 1)) x2 (q_X1_passYear_10__2 n x1 x2 σ)) else (f_X1_passYear_81 (f_X1_passYear_10  n) 279 x1 x2 σ) := rfl
theorem e_X1_passYear_10__2 (n : Nat) (x1 : Nat) (x2 : Int32) (σ : wg_M) (v2 : Int32) : q_X1_passYear_10__2 n x1 x2 σ v2 = wg_ga (wg_n Sc (wg_r Sc x1 2)) (σ (wg_r Sc x1 2)) x2 (q_X1_passYear_10__3 n x1 x2 σ v2) := rfl
theorem e_X1_passYear_10__3 (n : Nat) (x1 : Nat) (x2 : Int32) (σ : wg_M) (v2 : Int32) (v3 : Int32) : q_X1_passYear_10__3 n x1 x2 σ v2 v3 = wg_ga (wg_n Sc (wg_r Sc x1 3)) (σ (wg_r Sc x1 3)) x2 (q_X1_passYear_10__4 n x1 x2 σ v2 v3) := rfl
theorem e_X1_passYear_10__4 (n : Nat) (x1 : Nat) (x2 : Int32) (σ : wg_M) (v2 : Int32) (v3 : Int32) (v4 : Int32) : q_X1_passYear_10__4 n x1 x2 σ v2 v3 v4 = wg_bd (f_X1_canDo 279 v2 v3 v4 σ) (q_X1_passYear_10__5 n x1 x2) := rfl
theorem e_X1_passYear_10__5 (n : Nat) (x1 : Nat) (x2 : Int32) (v5 : Int32) (s6 : wg_M) : q_X1_passYear_10__5 n x1 x2 v5 s6 = if v5 = 0 then (f_X1_passYear_81 (f_X1_passYear_10  n) 279 x1 x2 s6) else (wg_ga (wg_n Sc (wg_r Sc x1 1)) (s6 (wg_r Sc x1 1)) x2 (q_X1_passYear_10__6 n x1 x2 s6)) := rfl
theorem e_X1_passYear_10__6 (n : Nat) (x1 : Nat) (x2 : Int32) (s6 : wg_M) (v7 : Int32) : q_X1_passYear_10__6 n x1 x2 s6 v7 = wg_ga (wg_n Sc (wg_r Sc x1 2)) (s6 (wg_r Sc x1 2)) x2 (q_X1_passYear_10__7 n x1 x2 s6 v7) := rfl
theorem e_X1_passYear_10__7 (n : Nat) (x1 : Nat) (x2 : Int32) (s6 : wg_M) (v7 : Int32) (v8 : Int32) : q_X1_passYear_10__7 n x1 x2 s6 v7 v8 = wg_ga (wg_n Sc (wg_r Sc x1 3)) (s6 (wg_r Sc x1 3)) x2 (q_X1_passYear_10__8 n x1 x2 s6 v7 v8) := rfl
theorem e_X1_passYear_10__8 (n : Nat) (x1 : Nat) (x2 : Int32) (s6 : wg_M) (v7 : Int32) (v8 : Int32) (v9 : Int32) : q_X1_passYear_10__8 n x1 x2 s6 v7 v8 v9 = wg_bd (f_X1_doTo 279 v7 v8 v9 s6) (q_X1_passYear_10__9 n x1 x2) := rfl
theorem e_X1_passYear_10__9 (n : Nat) (x1 : Nat) (x2 : Int32) (_u9 : Int32) (s10 : wg_M) : q_X1_passYear_10__9 n x1 x2 _u9 s10 = f_X1_passYear_81 (f_X1_passYear_10  n) 279 x1 x2 s10 := rfl
theorem e_X1_passYear_10 (n : Nat) (x1 : Nat) (x2 : Int32) (σ : wg_M) : f_X1_passYear_10 (n + 1) 279 x1 x2 σ = if (σ x1 4) ≤ x2 then (f_X1_passYear_97  wg_N 279 34 (0 : Int32) σ) else (wg_ga (wg_n Sc (wg_r Sc x1 0)) (σ (wg_r Sc x1 0)) x2 (q_X1_passYear_10__1 n x1 x2 σ)) := by
  rw [f_X1_passYear_10]
  simp only [sc_r0_3, sc_r279_0, sc_r279_1]
  rfl
theorem e_X1_passYear (σ : wg_M) : f_X1_passYear 279 σ = f_X1_passYear_10  wg_N 279 39 (0 : Int32) σ := by
  unfold f_X1_passYear
  simp only [sc_r0_4, sc_r279_0]
def q_X2_add__6 (s6 : wg_M) : Option (Int32 × wg_M) := some ((s6 11 5) - (1 : Int32), s6)
def q_X2_add__5 (s5 : wg_M) : Option (Int32 × wg_M) := wg_st s5 11 5 ((s5 11 5) + (1 : Int32)) q_X2_add__6
def q_X2_add__4 (s4 : wg_M) : Option (Int32 × wg_M) := wg_sa 10 s4 16 (s4 11 5) (0 : Int32) q_X2_add__5
def q_X2_add__3 (s3 : wg_M) : Option (Int32 × wg_M) := wg_sa 10 s3 15 (s3 11 5) (0 : Int32) q_X2_add__4
def q_X2_add__2 (s2 : wg_M) : Option (Int32 × wg_M) := wg_sa 10 s2 14 (s2 11 5) (-1 : Int32) q_X2_add__3
def q_X2_add__1 (x2 : Int32) (s1 : wg_M) : Option (Int32 × wg_M) := wg_sa 10 s1 13 (s1 11 5) x2 q_X2_add__2
theorem e_X2_add__1 (x2 : Int32) (s1 : wg_M) : q_X2_add__1 x2 s1 = wg_sa 10 s1 13 (s1 11 5) x2 q_X2_add__2 := rfl
theorem e_X2_add__2 (s2 : wg_M) : q_X2_add__2 s2 = wg_sa 10 s2 14 (s2 11 5) (-1 : Int32) q_X2_add__3 := rfl
theorem e_X2_add__3 (s3 : wg_M) : q_X2_add__3 s3 = wg_sa 10 s3 15 (s3 11 5) (0 : Int32) q_X2_add__4 := rfl
theorem e_X2_add__4 (s4 : wg_M) : q_X2_add__4 s4 = wg_sa 10 s4 16 (s4 11 5) (0 : Int32) q_X2_add__5 := rfl
theorem e_X2_add__5 (s5 : wg_M) : q_X2_add__5 s5 = wg_st s5 11 5 ((s5 11 5) + (1 : Int32)) q_X2_add__6 := rfl
theorem e_X2_add__6 (s6 : wg_M) : q_X2_add__6 s6 = some ((s6 11 5) - (1 : Int32), s6) := rfl
theorem e_X2_add (x1 : Int32) (x2 : Int32) (σ : wg_M) : f_X2_add 11 x1 x2 σ = if (σ 11 5) < (10 : Int32) then (wg_sa 10 σ 12 (σ 11 5) x1 (q_X2_add__1 x2)) else (some ((-1 : Int32), σ)) := by
  unfold f_X2_add
  simp only [sc_n12, sc_n13, sc_n14, sc_n15, sc_n16, sc_r11_0, sc_r11_1, sc_r11_2, sc_r11_3, sc_r11_4]
  rfl
def q_X3_clear__2 (s2 : wg_M) : Option (Int32 × wg_M) := some (0, s2)
def q_X3_clear__1 (s1 : wg_M) : Option (Int32 × wg_M) := wg_st s1 266 6 (0 : Int32) q_X3_clear__2
theorem e_X3_clear__1 (s1 : wg_M) : q_X3_clear__1 s1 = wg_st s1 266 6 (0 : Int32) q_X3_clear__2 := rfl
theorem e_X3_clear__2 (s2 : wg_M) : q_X3_clear__2 s2 = some (0, s2) := rfl
theorem e_X3_clear (σ : wg_M) : f_X3_clear 266 σ = wg_st σ 266 2 (0 : Int32) q_X3_clear__1 := rfl
def q_X3_put__3 (s3 : wg_M) : Option (Int32 × wg_M) := some (0, s3)
def q_X3_put__2 (s2 : wg_M) : Option (Int32 × wg_M) := wg_st s2 266 2 ((s2 266 2) + (1 : Int32)) q_X3_put__3
def q_X3_put__1 (x2 : Int32) (s1 : wg_M) : Option (Int32 × wg_M) := wg_sa 400 s1 268 (s1 266 2) x2 q_X3_put__2
theorem e_X3_put__1 (x2 : Int32) (s1 : wg_M) : q_X3_put__1 x2 s1 = wg_sa 400 s1 268 (s1 266 2) x2 q_X3_put__2 := rfl
theorem e_X3_put__2 (s2 : wg_M) : q_X3_put__2 s2 = wg_st s2 266 2 ((s2 266 2) + (1 : Int32)) q_X3_put__3 := rfl
theorem e_X3_put__3 (s3 : wg_M) : q_X3_put__3 s3 = some (0, s3) := rfl
theorem e_X3_put (x1 : Int32) (x2 : Int32) (σ : wg_M) : f_X3_put 266 x1 x2 σ = if (400 : Int32) ≤ (σ 266 2) then (some (0, σ)) else (wg_sa 400 σ 267 (σ 266 2) x1 (q_X3_put__1 x2)) := by
  unfold f_X3_put
  simp only [sc_n267, sc_n268, sc_r266_0, sc_r266_1]
  rfl
def q_X5_forget__1 (s1 : wg_M) : Option (Int32 × wg_M) := some (0, s1)
theorem e_X5_forget__1 (s1 : wg_M) : q_X5_forget__1 s1 = some (0, s1) := rfl
theorem e_X5_forget (σ : wg_M) : f_X5_forget 258 σ = wg_st σ 258 2 (0 : Int32) q_X5_forget__1 := rfl
theorem e_X6_hasRoomFor (x1 : Int32) (σ : wg_M) : f_X6_hasRoomFor 260 x1 σ = if ((400 : Int32) - x1) < (σ 260 2) then (some ((0 : Int32), σ)) else (some ((1 : Int32), σ)) := rfl
def q_X6_addNumber_43__1 (k3 : Nat → Int32 → Int32 → wg_M → Option (Int32 × wg_M)) (x1 : Int32) (σ : wg_M) (v1 : Int32) : Option (Int32 × wg_M) := k3 260 x1 v1 σ
theorem e_X6_addNumber_43__1 (k3 : Nat → Int32 → Int32 → wg_M → Option (Int32 × wg_M)) (x1 : Int32) (σ : wg_M) (v1 : Int32) : q_X6_addNumber_43__1 k3 x1 σ v1 = k3 260 x1 v1 σ := rfl
theorem e_X6_addNumber_43 (k3 : Nat → Int32 → Int32 → wg_M → Option (Int32 × wg_M)) (x1 : Int32) (x2 : Int32) (σ : wg_M) : f_X6_addNumber_43 k3 260 x1 x2 σ = wg_let (x2 + (-8 : Int32)) (q_X6_addNumber_43__1 k3 x1 σ) := rfl
def q_X6_addNumber_3__2 (n : Nat) (x1 : Int32) (x2 : Int32) (s2 : wg_M) : Option (Int32 × wg_M) := f_X6_addNumber_43 (f_X6_addNumber_3  n) 260 x1 x2 s2
def q_X6_addNumber_3__1 (n : Nat) (x1 : Int32) (x2 : Int32) (s1 : wg_M) : Option (Int32 × wg_M) := wg_st s1 260 2 ((s1 260 2) + (1 : Int32)) (q_X6_addNumber_3__2 n x1 x2)
theorem e_X6_addNumber_3__1 (n : Nat) (x1 : Int32) (x2 : Int32) (s1 : wg_M) : q_X6_addNumber_3__1 n x1 x2 s1 = wg_st s1 260 2 ((s1 260 2) + (1 : Int32)) (q_X6_addNumber_3__2 n x1 x2) := rfl
theorem e_X6_addNumber_3__2 (n : Nat) (x1 : Int32) (x2 : Int32) (s2 : wg_M) : q_X6_addNumber_3__2 n x1 x2 s2 = f_X6_addNumber_43 (f_X6_addNumber_3  n) 260 x1 x2 s2 := rfl
theorem e_X6_addNumber_3 (n : Nat) (x1 : Int32) (x2 : Int32) (σ : wg_M) : f_X6_addNumber_3 (n + 1) 260 x1 x2 σ = if x2 < 0 then (some (0, σ)) else (if (400 : Int32) ≤ (σ 260 2) then (f_X6_addNumber_43 (f_X6_addNumber_3  n) 260 x1 x2 σ) else (wg_sa 400 σ 261 (σ 260 2) ((wg_ush x1 x2) &&& (255 : Int32)) (q_X6_addNumber_3__1 n x1 x2))) := by
  rw [f_X6_addNumber_3]
  simp only [sc_n261, sc_r260_1]
  rfl
theorem e_X6_addNumber (x1 : Int32) (σ : wg_M) : f_X6_addNumber 260 x1 σ = f_X6_addNumber_3  wg_N 260 x1 (24 : Int32) σ := rfl
theorem e_X6_isLetter_22 (σ : wg_M) : f_X6_isLetter_22 σ = some ((1 : Int32), σ) := rfl
def q_X6_isLetter__2 (v3 : Int32) (s4 : wg_M) : Option (Int32 × wg_M) := if v3 = 0 then (some ((0 : Int32), s4)) else (f_X6_isLetter_22   s4)
def q_X6_isLetter__1 (x0 : Int32) (v1 : Int32) (s2 : wg_M) : Option (Int32 × wg_M) := if v1 = 0 then (wg_bd (f_X11_within x0 (65 : Int32) (90 : Int32) s2) q_X6_isLetter__2) else (f_X6_isLetter_22   s2)
theorem e_X6_isLetter__1 (x0 : Int32) (v1 : Int32) (s2 : wg_M) : q_X6_isLetter__1 x0 v1 s2 = if v1 = 0 then (wg_bd (f_X11_within x0 (65 : Int32) (90 : Int32) s2) q_X6_isLetter__2) else (f_X6_isLetter_22   s2) := rfl
theorem e_X6_isLetter__2 (v3 : Int32) (s4 : wg_M) : q_X6_isLetter__2 v3 s4 = if v3 = 0 then (some ((0 : Int32), s4)) else (f_X6_isLetter_22   s4) := rfl
theorem e_X6_isLetter (x0 : Int32) (σ : wg_M) : f_X6_isLetter x0 σ = wg_bd (f_X11_within x0 (97 : Int32) (122 : Int32) σ) (q_X6_isLetter__1 x0) := rfl
def q_X6_addToken__4 (s4 : wg_M) : Option (Int32 × wg_M) := some (0, s4)
def q_X6_addToken__3 (s3 : wg_M) : Option (Int32 × wg_M) := wg_st s3 260 6 ((s3 260 6) + (1 : Int32)) q_X6_addToken__4
def q_X6_addToken__2 (x3 : Int32) (s2 : wg_M) : Option (Int32 × wg_M) := wg_sa 401 s2 264 (s2 260 6) x3 q_X6_addToken__3
def q_X6_addToken__1 (x2 : Int32) (x3 : Int32) (s1 : wg_M) : Option (Int32 × wg_M) := wg_sa 401 s1 263 (s1 260 6) x2 (q_X6_addToken__2 x3)
theorem e_X6_addToken__1 (x2 : Int32) (x3 : Int32) (s1 : wg_M) : q_X6_addToken__1 x2 x3 s1 = wg_sa 401 s1 263 (s1 260 6) x2 (q_X6_addToken__2 x3) := rfl
theorem e_X6_addToken__2 (x3 : Int32) (s2 : wg_M) : q_X6_addToken__2 x3 s2 = wg_sa 401 s2 264 (s2 260 6) x3 q_X6_addToken__3 := rfl
theorem e_X6_addToken__3 (s3 : wg_M) : q_X6_addToken__3 s3 = wg_st s3 260 6 ((s3 260 6) + (1 : Int32)) q_X6_addToken__4 := rfl
theorem e_X6_addToken__4 (s4 : wg_M) : q_X6_addToken__4 s4 = some (0, s4) := rfl
theorem e_X6_addToken (x1 : Int32) (x2 : Int32) (x3 : Int32) (σ : wg_M) : f_X6_addToken 260 x1 x2 x3 σ = if (Int32.ofNat 401) ≤ (σ 260 6) then (some (0, σ)) else (wg_sa 401 σ 262 (σ 260 6) x1 (q_X6_addToken__1 x2 x3)) := by
  unfold f_X6_addToken
  simp only [sc_n262, sc_n263, sc_n264, sc_r260_3, sc_r260_4, sc_r260_5]
  rfl
def q_X6_isDigit__1 (v1 : Int32) (s2 : wg_M) : Option (Int32 × wg_M) := wg_bz v1 (some (v1, s2))
theorem e_X6_isDigit__1 (v1 : Int32) (s2 : wg_M) : q_X6_isDigit__1 v1 s2 = wg_bz v1 (some (v1, s2)) := rfl
theorem e_X6_isDigit (x0 : Int32) (σ : wg_M) : f_X6_isDigit x0 σ = wg_bd (f_X11_within x0 (48 : Int32) (57 : Int32) σ) q_X6_isDigit__1 := rfl
def q_X6_numberAt_5__3 (n : Nat) (x2 : Int32) (σ : wg_M) (v2 : Int32) (v3 : Int32) : Option (Int32 × wg_M) := f_X6_numberAt_5  n 260 x2 v2 v3 σ
def q_X6_numberAt_5__2 (n : Nat) (x2 : Int32) (x4 : Int32) (σ : wg_M) (v2 : Int32) : Option (Int32 × wg_M) := wg_let (x4 + (1 : Int32)) (q_X6_numberAt_5__3 n x2 σ v2)
def q_X6_numberAt_5__1 (n : Nat) (x2 : Int32) (x3 : Int32) (x4 : Int32) (σ : wg_M) (v1 : Int32) : Option (Int32 × wg_M) := wg_let (((x3 * (10 : Int32)) + v1) - (48 : Int32)) (q_X6_numberAt_5__2 n x2 x4 σ)
theorem e_X6_numberAt_5__1 (n : Nat) (x2 : Int32) (x3 : Int32) (x4 : Int32) (σ : wg_M) (v1 : Int32) : q_X6_numberAt_5__1 n x2 x3 x4 σ v1 = wg_let (((x3 * (10 : Int32)) + v1) - (48 : Int32)) (q_X6_numberAt_5__2 n x2 x4 σ) := rfl
theorem e_X6_numberAt_5__2 (n : Nat) (x2 : Int32) (x4 : Int32) (σ : wg_M) (v2 : Int32) : q_X6_numberAt_5__2 n x2 x4 σ v2 = wg_let (x4 + (1 : Int32)) (q_X6_numberAt_5__3 n x2 σ v2) := rfl
theorem e_X6_numberAt_5__3 (n : Nat) (x2 : Int32) (σ : wg_M) (v2 : Int32) (v3 : Int32) : q_X6_numberAt_5__3 n x2 σ v2 v3 = f_X6_numberAt_5  n 260 x2 v2 v3 σ := rfl
theorem e_X6_numberAt_5 (n : Nat) (x2 : Int32) (x3 : Int32) (x4 : Int32) (σ : wg_M) : f_X6_numberAt_5 (n + 1) 260 x2 x3 x4 σ = if x2 ≤ x4 then (some (x3, σ)) else (wg_ga 400 (σ 261) x4 (q_X6_numberAt_5__1 n x2 x3 x4 σ)) := by
  rw [f_X6_numberAt_5]
  simp only [sc_n261, sc_r260_1]
  rfl
theorem e_X6_numberAt (x1 : Int32) (x2 : Int32) (σ : wg_M) : f_X6_numberAt 260 x1 x2 σ = f_X6_numberAt_5  wg_N 260 x2 (0 : Int32) x1 σ := rfl
theorem e_X6_isSign (x0 : Int32) (σ : wg_M) : f_X6_isSign x0 σ = wg_sw x0 (40) [some ((1 : Int32), σ), some ((1 : Int32), σ), some ((1 : Int32), σ), some ((1 : Int32), σ), some ((0 : Int32), σ), some ((1 : Int32), σ), some ((0 : Int32), σ), some ((1 : Int32), σ), some ((0 : Int32), σ), some ((0 : Int32), σ), some ((0 : Int32), σ), some ((0 : Int32), σ), some ((0 : Int32), σ), some ((0 : Int32), σ), some ((0 : Int32), σ), some ((0 : Int32), σ), some ((0 : Int32), σ), some ((0 : Int32), σ), some ((0 : Int32), σ), some ((1 : Int32), σ), some ((1 : Int32), σ), some ((1 : Int32), σ), some ((1 : Int32), σ)] (some ((0 : Int32), σ)) := rfl
def q_X6_fail__3 (s3 : wg_M) : Option (Int32 × wg_M) := some ((0 : Int32), s3)
def q_X6_fail__2 (s1 : wg_M) (v2 : Int32) : Option (Int32 × wg_M) := wg_st s1 260 9 v2 q_X6_fail__3
def q_X6_fail__1 (s1 : wg_M) : Option (Int32 × wg_M) := wg_ga 401 (s1 264) (s1 260 7) (q_X6_fail__2 s1)
theorem e_X6_fail__1 (s1 : wg_M) : q_X6_fail__1 s1 = wg_ga 401 (s1 264) (s1 260 7) (q_X6_fail__2 s1) := rfl
theorem e_X6_fail__2 (s1 : wg_M) (v2 : Int32) : q_X6_fail__2 s1 v2 = wg_st s1 260 9 v2 q_X6_fail__3 := rfl
theorem e_X6_fail__3 (s3 : wg_M) : q_X6_fail__3 s3 = some ((0 : Int32), s3) := rfl
theorem e_X6_fail (x1 : Int32) (σ : wg_M) : f_X6_fail 260 x1 σ = wg_st σ 260 8 x1 q_X6_fail__1 := by
  unfold f_X6_fail
  simp only [sc_n264, sc_r260_5]
  rfl
def q_X6_expect__3 (v3 : Int32) (s4 : wg_M) : Option (Int32 × wg_M) := wg_bz v3 (some (v3, s4))
def q_X6_expect__2 (s2 : wg_M) : Option (Int32 × wg_M) := some ((1 : Int32), s2)
def q_X6_expect__1 (x1 : Int32) (σ : wg_M) (v1 : Int32) : Option (Int32 × wg_M) := if v1 = x1 then (wg_st σ 260 7 ((σ 260 7) + (1 : Int32)) q_X6_expect__2) else (wg_bd (f_X6_fail 260 (1 : Int32) σ) q_X6_expect__3)
theorem e_X6_expect__1 (x1 : Int32) (σ : wg_M) (v1 : Int32) : q_X6_expect__1 x1 σ v1 = if v1 = x1 then (wg_st σ 260 7 ((σ 260 7) + (1 : Int32)) q_X6_expect__2) else (wg_bd (f_X6_fail 260 (1 : Int32) σ) q_X6_expect__3) := rfl
theorem e_X6_expect__2 (s2 : wg_M) : q_X6_expect__2 s2 = some ((1 : Int32), s2) := rfl
theorem e_X6_expect__3 (v3 : Int32) (s4 : wg_M) : q_X6_expect__3 v3 s4 = wg_bz v3 (some (v3, s4)) := rfl
theorem e_X6_expect (x1 : Int32) (σ : wg_M) : f_X6_expect 260 x1 σ = wg_ga 401 (σ 262) (σ 260 7) (q_X6_expect__1 x1 σ) := by
  unfold f_X6_expect
  simp only [sc_n262, sc_r260_3]
  rfl
def q_X6_readNumber__7 (v9 : Int32) (s10 : wg_M) : Option (Int32 × wg_M) := some ((-1 : Int32), s10)
def q_X6_readNumber__6 (s5 : wg_M) (v6 : Int32) : Option (Int32 × wg_M) := some (v6, s5)
def q_X6_readNumber__5 (s5 : wg_M) : Option (Int32 × wg_M) := wg_ga 401 (s5 263) ((s5 260 7) - (1 : Int32)) (q_X6_readNumber__6 s5)
def q_X6_readNumber__4 (v7 : Int32) (s8 : wg_M) : Option (Int32 × wg_M) := some ((-1 : Int32), s8)
def q_X6_readNumber__3 (v3 : Int32) (s4 : wg_M) : Option (Int32 × wg_M) := if v3 = 0 then (wg_bd (f_X6_fail 260 (2 : Int32) s4) q_X6_readNumber__4) else (wg_st s4 260 7 ((s4 260 7) + (1 : Int32)) q_X6_readNumber__5)
def q_X6_readNumber__2 (x1 : Int32) (x2 : Int32) (σ : wg_M) (v2 : Int32) : Option (Int32 × wg_M) := wg_bd (f_X11_within v2 x1 x2 σ) q_X6_readNumber__3
def q_X6_readNumber__1 (x1 : Int32) (x2 : Int32) (σ : wg_M) (v1 : Int32) : Option (Int32 × wg_M) := if v1 = (2 : Int32) then (wg_ga 401 (σ 263) (σ 260 7) (q_X6_readNumber__2 x1 x2 σ)) else (wg_bd (f_X6_fail 260 (1 : Int32) σ) q_X6_readNumber__7)
theorem e_X6_readNumber__1 (x1 : Int32) (x2 : Int32) (σ : wg_M) (v1 : Int32) : q_X6_readNumber__1 x1 x2 σ v1 = if v1 = (2 : Int32) then (wg_ga 401 (σ 263) (σ 260 7) (q_X6_readNumber__2 x1 x2 σ)) else (wg_bd (f_X6_fail 260 (1 : Int32) σ) q_X6_readNumber__7) := rfl
theorem e_X6_readNumber__2 (x1 : Int32) (x2 : Int32) (σ : wg_M) (v2 : Int32) : q_X6_readNumber__2 x1 x2 σ v2 = wg_bd (f_X11_within v2 x1 x2 σ) q_X6_readNumber__3 := rfl
theorem e_X6_readNumber__3 (v3 : Int32) (s4 : wg_M) : q_X6_readNumber__3 v3 s4 = if v3 = 0 then (wg_bd (f_X6_fail 260 (2 : Int32) s4) q_X6_readNumber__4) else (wg_st s4 260 7 ((s4 260 7) + (1 : Int32)) q_X6_readNumber__5) := rfl
theorem e_X6_readNumber__4 (v7 : Int32) (s8 : wg_M) : q_X6_readNumber__4 v7 s8 = some ((-1 : Int32), s8) := rfl
theorem e_X6_readNumber__5 (s5 : wg_M) : q_X6_readNumber__5 s5 = wg_ga 401 (s5 263) ((s5 260 7) - (1 : Int32)) (q_X6_readNumber__6 s5) := rfl
theorem e_X6_readNumber__6 (s5 : wg_M) (v6 : Int32) : q_X6_readNumber__6 s5 v6 = some (v6, s5) := rfl
theorem e_X6_readNumber__7 (v9 : Int32) (s10 : wg_M) : q_X6_readNumber__7 v9 s10 = some ((-1 : Int32), s10) := rfl
theorem e_X6_readNumber (x1 : Int32) (x2 : Int32) (σ : wg_M) : f_X6_readNumber 260 x1 x2 σ = wg_ga 401 (σ 262) (σ 260 7) (q_X6_readNumber__1 x1 x2 σ) := by
  unfold f_X6_readNumber
  simp only [sc_n262, sc_n263, sc_r260_3, sc_r260_4]
  rfl
def q_X6_readWig__1 (v1 : Int32) (s2 : wg_M) : Option (Int32 × wg_M) := some (v1, s2)
theorem e_X6_readWig__1 (v1 : Int32) (s2 : wg_M) : q_X6_readWig__1 v1 s2 = some (v1, s2) := rfl
theorem e_X6_readWig (σ : wg_M) : f_X6_readWig 260 σ = wg_bd (f_X6_readNumber 260 (0 : Int32) ((σ 2 8) - (1 : Int32)) σ) q_X6_readWig__1 := by
  unfold f_X6_readWig
  simp only [sc_r0_0, sc_r1_0, sc_r260_0]
  rfl
def q_X6_readJudge__1 (v1 : Int32) (s2 : wg_M) : Option (Int32 × wg_M) := some (v1, s2)
theorem e_X6_readJudge__1 (v1 : Int32) (s2 : wg_M) : q_X6_readJudge__1 v1 s2 = some (v1, s2) := rfl
theorem e_X6_readJudge (σ : wg_M) : f_X6_readJudge 260 σ = wg_bd (f_X6_readNumber 260 (0 : Int32) ((σ 11 5) - (1 : Int32)) σ) q_X6_readJudge__1 := by
  unfold f_X6_readJudge
  simp only [sc_r0_0, sc_r1_1, sc_r260_0]
  rfl
def q_X6_expectFirst_25__1 (v1 : Int32) (s2 : wg_M) : Option (Int32 × wg_M) := wg_bz v1 (some (v1, s2))
theorem e_X6_expectFirst_25__1 (v1 : Int32) (s2 : wg_M) : q_X6_expectFirst_25__1 v1 s2 = wg_bz v1 (some (v1, s2)) := rfl
theorem e_X6_expectFirst_25 (x1 : Int32) (σ : wg_M) : f_X6_expectFirst_25 260 x1 σ = wg_bd (f_X6_expect 260 x1 σ) q_X6_expectFirst_25__1 := rfl
def q_X6_expectFirst__2 (v2 : Int32) (s3 : wg_M) : Option (Int32 × wg_M) := wg_bz v2 (some (v2, s3))
def q_X6_expectFirst__1 (x1 : Int32) (x2 : Int32) (σ : wg_M) (v1 : Int32) : Option (Int32 × wg_M) := if v1 = x1 then (if x2 < (16 : Int32) then (f_X6_expectFirst_25  260 x1 σ) else (wg_bd (f_X6_fail 260 (3 : Int32) σ) q_X6_expectFirst__2)) else (f_X6_expectFirst_25  260 x1 σ)
theorem e_X6_expectFirst__1 (x1 : Int32) (x2 : Int32) (σ : wg_M) (v1 : Int32) : q_X6_expectFirst__1 x1 x2 σ v1 = if v1 = x1 then (if x2 < (16 : Int32) then (f_X6_expectFirst_25  260 x1 σ) else (wg_bd (f_X6_fail 260 (3 : Int32) σ) q_X6_expectFirst__2)) else (f_X6_expectFirst_25  260 x1 σ) := rfl
theorem e_X6_expectFirst__2 (v2 : Int32) (s3 : wg_M) : q_X6_expectFirst__2 v2 s3 = wg_bz v2 (some (v2, s3)) := rfl
theorem e_X6_expectFirst (x1 : Int32) (x2 : Int32) (σ : wg_M) : f_X6_expectFirst 260 x1 x2 σ = wg_ga 401 (σ 262) (σ 260 7) (q_X6_expectFirst__1 x1 x2 σ) := by
  unfold f_X6_expectFirst
  simp only [sc_n262, sc_r260_3]
  rfl
def q_X6_readKinLine_73__3 (_u3 : Int32) (s5 : wg_M) : Option (Int32 × wg_M) := some ((1 : Int32), s5)
def q_X6_readKinLine_73__2 (x1 : Int32) (v1 : Int32) (v3 : Int32) (s4 : wg_M) : Option (Int32 × wg_M) := if v3 = 0 then (some ((0 : Int32), s4)) else (wg_bd (f_X4_add 274 (0 : Int32) (0 : Int32) x1 v1 s4) q_X6_readKinLine_73__3)
def q_X6_readKinLine_73__1 (x1 : Int32) (v1 : Int32) (s2 : wg_M) : Option (Int32 × wg_M) := if v1 = (-1 : Int32) then (some ((0 : Int32), s2)) else (wg_bd (f_X6_expect 260 (59 : Int32) s2) (q_X6_readKinLine_73__2 x1 v1))
theorem e_X6_readKinLine_73__1 (x1 : Int32) (v1 : Int32) (s2 : wg_M) : q_X6_readKinLine_73__1 x1 v1 s2 = if v1 = (-1 : Int32) then (some ((0 : Int32), s2)) else (wg_bd (f_X6_expect 260 (59 : Int32) s2) (q_X6_readKinLine_73__2 x1 v1)) := rfl
theorem e_X6_readKinLine_73__2 (x1 : Int32) (v1 : Int32) (v3 : Int32) (s4 : wg_M) : q_X6_readKinLine_73__2 x1 v1 v3 s4 = if v3 = 0 then (some ((0 : Int32), s4)) else (wg_bd (f_X4_add 274 (0 : Int32) (0 : Int32) x1 v1 s4) q_X6_readKinLine_73__3) := rfl
theorem e_X6_readKinLine_73__3 (_u3 : Int32) (s5 : wg_M) : q_X6_readKinLine_73__3 _u3 s5 = some ((1 : Int32), s5) := rfl
theorem e_X6_readKinLine_73 (x1 : Int32) (σ : wg_M) : f_X6_readKinLine_73 260 x1 σ = wg_bd (f_X6_readWig 260 σ) (q_X6_readKinLine_73__1 x1) := by
  unfold f_X6_readKinLine_73
  simp only [sc_r260_11]
  rfl
def q_X6_readKinLine__6 (v9 : Int32) (s10 : wg_M) : Option (Int32 × wg_M) := wg_bz v9 (some (v9, s10))
def q_X6_readKinLine__5 (v3 : Int32) (s6 : wg_M) (v8 : Int32) : Option (Int32 × wg_M) := if v8 = v3 then (wg_bd (f_X6_fail 260 (2 : Int32) s6) q_X6_readKinLine__6) else (f_X6_readKinLine_73  260 v3 s6)
def q_X6_readKinLine__4 (v3 : Int32) (s6 : wg_M) (v7 : Int32) : Option (Int32 × wg_M) := if v7 = (2 : Int32) then (wg_ga 401 (s6 263) (s6 260 7) (q_X6_readKinLine__5 v3 s6)) else (f_X6_readKinLine_73  260 v3 s6)
def q_X6_readKinLine__3 (v3 : Int32) (v5 : Int32) (s6 : wg_M) : Option (Int32 × wg_M) := if v5 = 0 then (some ((0 : Int32), s6)) else (wg_ga 401 (s6 262) (s6 260 7) (q_X6_readKinLine__4 v3 s6))
def q_X6_readKinLine__2 (v3 : Int32) (s4 : wg_M) : Option (Int32 × wg_M) := if v3 = (-1 : Int32) then (some ((0 : Int32), s4)) else (wg_bd (f_X6_expect 260 (281 : Int32) s4) (q_X6_readKinLine__3 v3))
def q_X6_readKinLine__1 (v1 : Int32) (s2 : wg_M) : Option (Int32 × wg_M) := if v1 = 0 then (some ((0 : Int32), s2)) else (wg_bd (f_X6_readWig 260 s2) q_X6_readKinLine__2)
theorem e_X6_readKinLine__1 (v1 : Int32) (s2 : wg_M) : q_X6_readKinLine__1 v1 s2 = if v1 = 0 then (some ((0 : Int32), s2)) else (wg_bd (f_X6_readWig 260 s2) q_X6_readKinLine__2) := rfl
theorem e_X6_readKinLine__2 (v3 : Int32) (s4 : wg_M) : q_X6_readKinLine__2 v3 s4 = if v3 = (-1 : Int32) then (some ((0 : Int32), s4)) else (wg_bd (f_X6_expect 260 (281 : Int32) s4) (q_X6_readKinLine__3 v3)) := rfl
theorem e_X6_readKinLine__3 (v3 : Int32) (v5 : Int32) (s6 : wg_M) : q_X6_readKinLine__3 v3 v5 s6 = if v5 = 0 then (some ((0 : Int32), s6)) else (wg_ga 401 (s6 262) (s6 260 7) (q_X6_readKinLine__4 v3 s6)) := rfl
theorem e_X6_readKinLine__4 (v3 : Int32) (s6 : wg_M) (v7 : Int32) : q_X6_readKinLine__4 v3 s6 v7 = if v7 = (2 : Int32) then (wg_ga 401 (s6 263) (s6 260 7) (q_X6_readKinLine__5 v3 s6)) else (f_X6_readKinLine_73  260 v3 s6) := rfl
theorem e_X6_readKinLine__5 (v3 : Int32) (s6 : wg_M) (v8 : Int32) : q_X6_readKinLine__5 v3 s6 v8 = if v8 = v3 then (wg_bd (f_X6_fail 260 (2 : Int32) s6) q_X6_readKinLine__6) else (f_X6_readKinLine_73  260 v3 s6) := rfl
theorem e_X6_readKinLine__6 (v9 : Int32) (s10 : wg_M) : q_X6_readKinLine__6 v9 s10 = wg_bz v9 (some (v9, s10)) := rfl
theorem e_X6_readKinLine (σ : wg_M) : f_X6_readKinLine 260 σ = wg_bd (f_X6_expectFirst 260 (276 : Int32) (σ 274 4) σ) q_X6_readKinLine__1 := by
  unfold f_X6_readKinLine
  simp only [sc_n262, sc_n263, sc_r260_3, sc_r260_4, sc_r260_11]
  rfl
def q_X6_readHearing__5 (v7 : Int32) (_u5 : Int32) (s9 : wg_M) : Option (Int32 × wg_M) := if v7 = (-1 : Int32) then (some ((0 : Int32), s9)) else (some ((1 : Int32), s9))
def q_X6_readHearing__4 (x1 : Int32) (v3 : Int32) (v7 : Int32) (s8 : wg_M) : Option (Int32 × wg_M) := wg_bd (f_X4_add 274 x1 (0 : Int32) v3 v7 s8) (q_X6_readHearing__5 v7)
def q_X6_readHearing__3 (x1 : Int32) (v3 : Int32) (v5 : Int32) (s6 : wg_M) : Option (Int32 × wg_M) := if v5 = 0 then (some ((0 : Int32), s6)) else (wg_bd (f_X6_readJudge 260 s6) (q_X6_readHearing__4 x1 v3))
def q_X6_readHearing__2 (x1 : Int32) (v3 : Int32) (s4 : wg_M) : Option (Int32 × wg_M) := if v3 = (-1 : Int32) then (some ((0 : Int32), s4)) else (wg_bd (f_X6_expect 260 (275 : Int32) s4) (q_X6_readHearing__3 x1 v3))
def q_X6_readHearing__1 (x1 : Int32) (v1 : Int32) (s2 : wg_M) : Option (Int32 × wg_M) := if v1 = 0 then (some ((0 : Int32), s2)) else (wg_bd (f_X6_readNumber 260 (0 : Int32) ((s2 1 6) - (1 : Int32)) s2) (q_X6_readHearing__2 x1))
theorem e_X6_readHearing__1 (x1 : Int32) (v1 : Int32) (s2 : wg_M) : q_X6_readHearing__1 x1 v1 s2 = if v1 = 0 then (some ((0 : Int32), s2)) else (wg_bd (f_X6_readNumber 260 (0 : Int32) ((s2 1 6) - (1 : Int32)) s2) (q_X6_readHearing__2 x1)) := rfl
theorem e_X6_readHearing__2 (x1 : Int32) (v3 : Int32) (s4 : wg_M) : q_X6_readHearing__2 x1 v3 s4 = if v3 = (-1 : Int32) then (some ((0 : Int32), s4)) else (wg_bd (f_X6_expect 260 (275 : Int32) s4) (q_X6_readHearing__3 x1 v3)) := rfl
theorem e_X6_readHearing__3 (x1 : Int32) (v3 : Int32) (v5 : Int32) (s6 : wg_M) : q_X6_readHearing__3 x1 v3 v5 s6 = if v5 = 0 then (some ((0 : Int32), s6)) else (wg_bd (f_X6_readJudge 260 s6) (q_X6_readHearing__4 x1 v3)) := rfl
theorem e_X6_readHearing__4 (x1 : Int32) (v3 : Int32) (v7 : Int32) (s8 : wg_M) : q_X6_readHearing__4 x1 v3 v7 s8 = wg_bd (f_X4_add 274 x1 (0 : Int32) v3 v7 s8) (q_X6_readHearing__5 v7) := rfl
theorem e_X6_readHearing__5 (v7 : Int32) (_u5 : Int32) (s9 : wg_M) : q_X6_readHearing__5 v7 _u5 s9 = if v7 = (-1 : Int32) then (some ((0 : Int32), s9)) else (some ((1 : Int32), s9)) := rfl
theorem e_X6_readHearing (x1 : Int32) (σ : wg_M) : f_X6_readHearing 260 x1 σ = wg_bd (f_X6_expect 260 (274 : Int32) σ) (q_X6_readHearing__1 x1) := by
  unfold f_X6_readHearing
  simp only [sc_r0_0, sc_r260_0, sc_r260_11]
  rfl
def q_X6_readLoan_146__1 (x5 : Int32) (_u1 : Int32) (s1 : wg_M) : Option (Int32 × wg_M) := if x5 = (-1 : Int32) then (some ((0 : Int32), s1)) else (some ((1 : Int32), s1))
theorem e_X6_readLoan_146__1 (x5 : Int32) (_u1 : Int32) (s1 : wg_M) : q_X6_readLoan_146__1 x5 _u1 s1 = if x5 = (-1 : Int32) then (some ((0 : Int32), s1)) else (some ((1 : Int32), s1)) := rfl
theorem e_X6_readLoan_146 (x1 : Int32) (x3 : Int32) (x4 : Int32) (x5 : Int32) (σ : wg_M) : f_X6_readLoan_146 260 x1 x3 x4 x5 σ = wg_bd (f_X4_add 274 x1 x4 x3 x5 σ) (q_X6_readLoan_146__1 x5) := by
  unfold f_X6_readLoan_146
  simp only [sc_r260_11]
  rfl
theorem e_X6_readLoan_100 (x1 : Int32) (x3 : Int32) (x4 : Int32) (t0 : Int32) (σ : wg_M) : f_X6_readLoan_100 260 x1 x3 x4 t0 σ = f_X6_readLoan_146  260 x1 x3 x4 t0 σ := rfl
def q_X6_readLoan_44__6 (x1 : Int32) (v2 : Int32) (v4 : Int32) (s5 : wg_M) : Option (Int32 × wg_M) := f_X6_readLoan_146  260 x1 v2 (3 : Int32) v4 s5
def q_X6_readLoan_44__5 (x1 : Int32) (v2 : Int32) (v6 : Int32) (s7 : wg_M) : Option (Int32 × wg_M) := f_X6_readLoan_146  260 x1 v2 (2 : Int32) v6 s7
def q_X6_readLoan_44__4 (x1 : Int32) (v2 : Int32) (v10 : Int32) (s11 : wg_M) : Option (Int32 × wg_M) := f_X6_readLoan_100  260 x1 v2 (0 : Int32) v10 s11
def q_X6_readLoan_44__3 (x1 : Int32) (v2 : Int32) (v8 : Int32) (s9 : wg_M) : Option (Int32 × wg_M) := if v8 = 0 then (f_X6_readLoan_100  260 x1 v2 (0 : Int32) (-1 : Int32) s9) else (wg_bd (f_X6_readJudge 260 s9) (q_X6_readLoan_44__4 x1 v2))
def q_X6_readLoan_44__2 (x1 : Int32) (x2 : Int32) (v2 : Int32) (s3 : wg_M) : Option (Int32 × wg_M) := if v2 = (-1 : Int32) then (some ((0 : Int32), s3)) else (if x2 = (276 : Int32) then (wg_bd (f_X6_expect 260 (277 : Int32) s3) (q_X6_readLoan_44__3 x1 v2)) else (if x2 = (279 : Int32) then (wg_bd (f_X6_readNumber 260 (0 : Int32) (7 : Int32) s3) (q_X6_readLoan_44__5 x1 v2)) else (if x2 = (280 : Int32) then (wg_bd (f_X6_readNumber 260 (1 : Int32) (99 : Int32) s3) (q_X6_readLoan_44__6 x1 v2)) else (f_X6_readLoan_146  260 x1 v2 (1 : Int32) (0 : Int32) s3))))
def q_X6_readLoan_44__1 (x1 : Int32) (x2 : Int32) (s1 : wg_M) : Option (Int32 × wg_M) := wg_bd (f_X6_readWig 260 s1) (q_X6_readLoan_44__2 x1 x2)
theorem e_X6_readLoan_44__1 (x1 : Int32) (x2 : Int32) (s1 : wg_M) : q_X6_readLoan_44__1 x1 x2 s1 = wg_bd (f_X6_readWig 260 s1) (q_X6_readLoan_44__2 x1 x2) := rfl
theorem e_X6_readLoan_44__2 (x1 : Int32) (x2 : Int32) (v2 : Int32) (s3 : wg_M) : q_X6_readLoan_44__2 x1 x2 v2 s3 = if v2 = (-1 : Int32) then (some ((0 : Int32), s3)) else (if x2 = (276 : Int32) then (wg_bd (f_X6_expect 260 (277 : Int32) s3) (q_X6_readLoan_44__3 x1 v2)) else (if x2 = (279 : Int32) then (wg_bd (f_X6_readNumber 260 (0 : Int32) (7 : Int32) s3) (q_X6_readLoan_44__5 x1 v2)) else (if x2 = (280 : Int32) then (wg_bd (f_X6_readNumber 260 (1 : Int32) (99 : Int32) s3) (q_X6_readLoan_44__6 x1 v2)) else (f_X6_readLoan_146  260 x1 v2 (1 : Int32) (0 : Int32) s3)))) := rfl
theorem e_X6_readLoan_44__3 (x1 : Int32) (v2 : Int32) (v8 : Int32) (s9 : wg_M) : q_X6_readLoan_44__3 x1 v2 v8 s9 = if v8 = 0 then (f_X6_readLoan_100  260 x1 v2 (0 : Int32) (-1 : Int32) s9) else (wg_bd (f_X6_readJudge 260 s9) (q_X6_readLoan_44__4 x1 v2)) := rfl
theorem e_X6_readLoan_44__4 (x1 : Int32) (v2 : Int32) (v10 : Int32) (s11 : wg_M) : q_X6_readLoan_44__4 x1 v2 v10 s11 = f_X6_readLoan_100  260 x1 v2 (0 : Int32) v10 s11 := rfl
theorem e_X6_readLoan_44__5 (x1 : Int32) (v2 : Int32) (v6 : Int32) (s7 : wg_M) : q_X6_readLoan_44__5 x1 v2 v6 s7 = f_X6_readLoan_146  260 x1 v2 (2 : Int32) v6 s7 := rfl
theorem e_X6_readLoan_44__6 (x1 : Int32) (v2 : Int32) (v4 : Int32) (s5 : wg_M) : q_X6_readLoan_44__6 x1 v2 v4 s5 = f_X6_readLoan_146  260 x1 v2 (3 : Int32) v4 s5 := rfl
theorem e_X6_readLoan_44 (x1 : Int32) (x2 : Int32) (σ : wg_M) : f_X6_readLoan_44 260 x1 x2 σ = wg_st σ 260 7 ((σ 260 7) + (1 : Int32)) (q_X6_readLoan_44__1 x1 x2) := rfl
def q_X6_readLoan__2 (v2 : Int32) (s3 : wg_M) : Option (Int32 × wg_M) := wg_bz v2 (some (v2, s3))
def q_X6_readLoan__1 (x1 : Int32) (σ : wg_M) (v1 : Int32) : Option (Int32 × wg_M) := if v1 = (276 : Int32) then (f_X6_readLoan_44  260 x1 v1 σ) else (if v1 = (278 : Int32) then (f_X6_readLoan_44  260 x1 v1 σ) else (if v1 = (279 : Int32) then (f_X6_readLoan_44  260 x1 v1 σ) else (if v1 = (280 : Int32) then (f_X6_readLoan_44  260 x1 v1 σ) else (wg_bd (f_X6_fail 260 (1 : Int32) σ) q_X6_readLoan__2))))
theorem e_X6_readLoan__1 (x1 : Int32) (σ : wg_M) (v1 : Int32) : q_X6_readLoan__1 x1 σ v1 = if v1 = (276 : Int32) then (f_X6_readLoan_44  260 x1 v1 σ) else (if v1 = (278 : Int32) then (f_X6_readLoan_44  260 x1 v1 σ) else (if v1 = (279 : Int32) then (f_X6_readLoan_44  260 x1 v1 σ) else (if v1 = (280 : Int32) then (f_X6_readLoan_44  260 x1 v1 σ) else (wg_bd (f_X6_fail 260 (1 : Int32) σ) q_X6_readLoan__2)))) := rfl
theorem e_X6_readLoan__2 (v2 : Int32) (s3 : wg_M) : q_X6_readLoan__2 v2 s3 = wg_bz v2 (some (v2, s3)) := rfl
theorem e_X6_readLoan (x1 : Int32) (σ : wg_M) : f_X6_readLoan 260 x1 σ = wg_ga 401 (σ 262) (σ 260 7) (q_X6_readLoan__1 x1 σ) := by
  unfold f_X6_readLoan
  simp only [sc_n262, sc_r260_3]
  rfl
def q_X6_readPlanLine_53__1 (v1 : Int32) (s2 : wg_M) : Option (Int32 × wg_M) := if v1 = 0 then (some ((0 : Int32), s2)) else (some ((1 : Int32), s2))
theorem e_X6_readPlanLine_53__1 (v1 : Int32) (s2 : wg_M) : q_X6_readPlanLine_53__1 v1 s2 = if v1 = 0 then (some ((0 : Int32), s2)) else (some ((1 : Int32), s2)) := rfl
theorem e_X6_readPlanLine_53 (t0 : Int32) (σ : wg_M) : f_X6_readPlanLine_53 260 t0 σ = if t0 = 0 then (some ((0 : Int32), σ)) else (wg_bd (f_X6_expect 260 (59 : Int32) σ) q_X6_readPlanLine_53__1) := rfl
def q_X6_readPlanLine__4 (v5 : Int32) (s6 : wg_M) : Option (Int32 × wg_M) := f_X6_readPlanLine_53  260 v5 s6
def q_X6_readPlanLine__3 (v7 : Int32) (s8 : wg_M) : Option (Int32 × wg_M) := f_X6_readPlanLine_53  260 v7 s8
def q_X6_readPlanLine__2 (x1 : Int32) (v3 : Int32) (s4 : wg_M) : Option (Int32 × wg_M) := if v3 = (-1 : Int32) then (some ((0 : Int32), s4)) else (if x1 = (1 : Int32) then (wg_bd (f_X6_readHearing 260 v3 s4) q_X6_readPlanLine__3) else (wg_bd (f_X6_readLoan 260 v3 s4) q_X6_readPlanLine__4))
def q_X6_readPlanLine__1 (x1 : Int32) (v1 : Int32) (s2 : wg_M) : Option (Int32 × wg_M) := if v1 = 0 then (some ((0 : Int32), s2)) else (wg_bd (f_X6_readNumber 260 (0 : Int32) (999 : Int32) s2) (q_X6_readPlanLine__2 x1))
theorem e_X6_readPlanLine__1 (x1 : Int32) (v1 : Int32) (s2 : wg_M) : q_X6_readPlanLine__1 x1 v1 s2 = if v1 = 0 then (some ((0 : Int32), s2)) else (wg_bd (f_X6_readNumber 260 (0 : Int32) (999 : Int32) s2) (q_X6_readPlanLine__2 x1)) := rfl
theorem e_X6_readPlanLine__2 (x1 : Int32) (v3 : Int32) (s4 : wg_M) : q_X6_readPlanLine__2 x1 v3 s4 = if v3 = (-1 : Int32) then (some ((0 : Int32), s4)) else (if x1 = (1 : Int32) then (wg_bd (f_X6_readHearing 260 v3 s4) q_X6_readPlanLine__3) else (wg_bd (f_X6_readLoan 260 v3 s4) q_X6_readPlanLine__4)) := rfl
theorem e_X6_readPlanLine__3 (v7 : Int32) (s8 : wg_M) : q_X6_readPlanLine__3 v7 s8 = f_X6_readPlanLine_53  260 v7 s8 := rfl
theorem e_X6_readPlanLine__4 (v5 : Int32) (s6 : wg_M) : q_X6_readPlanLine__4 v5 s6 = f_X6_readPlanLine_53  260 v5 s6 := rfl
theorem e_X6_readPlanLine (x1 : Int32) (σ : wg_M) : f_X6_readPlanLine 260 x1 σ = wg_bd (f_X6_expectFirst 260 (273 : Int32) (σ 274 4) σ) (q_X6_readPlanLine__1 x1) := by
  unfold f_X6_readPlanLine
  simp only [sc_r260_11]
  rfl
def q_X6_readLines_59__3 (_u3 : Int32) (s1 : wg_M) : Option (Int32 × wg_M) := some ((1 : Int32), s1)
def q_X6_readLines_59__2 (_u2 : Int32) (s2 : wg_M) : Option (Int32 × wg_M) := some ((1 : Int32), s2)
def q_X6_readLines_59__1 (_u1 : Int32) (s3 : wg_M) : Option (Int32 × wg_M) := some ((1 : Int32), s3)
theorem e_X6_readLines_59__1 (_u1 : Int32) (s3 : wg_M) : q_X6_readLines_59__1 _u1 s3 = some ((1 : Int32), s3) := rfl
theorem e_X6_readLines_59__2 (_u2 : Int32) (s2 : wg_M) : q_X6_readLines_59__2 _u2 s2 = some ((1 : Int32), s2) := rfl
theorem e_X6_readLines_59__3 (_u3 : Int32) (s1 : wg_M) : q_X6_readLines_59__3 _u3 s1 = some ((1 : Int32), s1) := rfl
theorem e_X6_readLines_59 (x1 : Int32) (σ : wg_M) : f_X6_readLines_59 260 x1 σ = if x1 = (1 : Int32) then (wg_bd (f_X4_copyFrom 34 274 σ) q_X6_readLines_59__1) else (if x1 = (2 : Int32) then (wg_bd (f_X4_copyFrom 39 274 σ) q_X6_readLines_59__2) else (wg_bd (f_X4_copyFrom 44 274 σ) q_X6_readLines_59__3)) := by
  unfold f_X6_readLines_59
  simp only [sc_r0_3, sc_r0_4, sc_r0_5, sc_r260_0, sc_r260_11]
  rfl
def q_X6_readLines_46__1 (k10 : Nat → Int32 → Int32 → wg_M → Option (Int32 × wg_M)) (x1 : Int32) (σ : wg_M) (v1 : Int32) : Option (Int32 × wg_M) := k10 260 x1 v1 σ
theorem e_X6_readLines_46__1 (k10 : Nat → Int32 → Int32 → wg_M → Option (Int32 × wg_M)) (x1 : Int32) (σ : wg_M) (v1 : Int32) : q_X6_readLines_46__1 k10 x1 σ v1 = k10 260 x1 v1 σ := rfl
theorem e_X6_readLines_46 (k10 : Nat → Int32 → Int32 → wg_M → Option (Int32 × wg_M)) (x1 : Int32) (x2 : Int32) (t0 : Int32) (σ : wg_M) : f_X6_readLines_46 k10 260 x1 x2 t0 σ = if t0 = 0 then (some ((0 : Int32), σ)) else (wg_let (x2 + (1 : Int32)) (q_X6_readLines_46__1 k10 x1 σ)) := rfl
def q_X6_readLines_10__3 (n : Nat) (x1 : Int32) (x2 : Int32) (v2 : Int32) (s3 : wg_M) : Option (Int32 × wg_M) := f_X6_readLines_46 (f_X6_readLines_10  n) 260 x1 x2 v2 s3
def q_X6_readLines_10__2 (n : Nat) (x1 : Int32) (x2 : Int32) (v4 : Int32) (s5 : wg_M) : Option (Int32 × wg_M) := f_X6_readLines_46 (f_X6_readLines_10  n) 260 x1 x2 v4 s5
def q_X6_readLines_10__1 (n : Nat) (x1 : Int32) (x2 : Int32) (σ : wg_M) (v1 : Int32) : Option (Int32 × wg_M) := if v1 = (1 : Int32) then (f_X6_readLines_59  260 x1 σ) else (if x1 = (3 : Int32) then (wg_bd (f_X6_readKinLine 260 σ) (q_X6_readLines_10__2 n x1 x2)) else (wg_bd (f_X6_readPlanLine 260 x1 σ) (q_X6_readLines_10__3 n x1 x2)))
theorem e_X6_readLines_10__1 (n : Nat) (x1 : Int32) (x2 : Int32) (σ : wg_M) (v1 : Int32) : q_X6_readLines_10__1 n x1 x2 σ v1 = if v1 = (1 : Int32) then (f_X6_readLines_59  260 x1 σ) else (if x1 = (3 : Int32) then (wg_bd (f_X6_readKinLine 260 σ) (q_X6_readLines_10__2 n x1 x2)) else (wg_bd (f_X6_readPlanLine 260 x1 σ) (q_X6_readLines_10__3 n x1 x2))) := rfl
theorem e_X6_readLines_10__2 (n : Nat) (x1 : Int32) (x2 : Int32) (v4 : Int32) (s5 : wg_M) : q_X6_readLines_10__2 n x1 x2 v4 s5 = f_X6_readLines_46 (f_X6_readLines_10  n) 260 x1 x2 v4 s5 := rfl
theorem e_X6_readLines_10__3 (n : Nat) (x1 : Int32) (x2 : Int32) (v2 : Int32) (s3 : wg_M) : q_X6_readLines_10__3 n x1 x2 v2 s3 = f_X6_readLines_46 (f_X6_readLines_10  n) 260 x1 x2 v2 s3 := rfl
theorem e_X6_readLines_10 (n : Nat) (x1 : Int32) (x2 : Int32) (σ : wg_M) : f_X6_readLines_10 (n + 1) 260 x1 x2 σ = if (16 : Int32) < x2 then (f_X6_readLines_59  260 x1 σ) else (wg_ga 401 (σ 262) (σ 260 7) (q_X6_readLines_10__1 n x1 x2 σ)) := by
  rw [f_X6_readLines_10]
  simp only [sc_n262, sc_r260_3]
  rfl
def q_X6_readLines__1 (x1 : Int32) (s1 : wg_M) : Option (Int32 × wg_M) := f_X6_readLines_10  wg_N 260 x1 (0 : Int32) s1
theorem e_X6_readLines__1 (x1 : Int32) (s1 : wg_M) : q_X6_readLines__1 x1 s1 = f_X6_readLines_10  wg_N 260 x1 (0 : Int32) s1 := rfl
theorem e_X6_readLines (x1 : Int32) (σ : wg_M) : f_X6_readLines 260 x1 σ = wg_st σ 274 4 (0 : Int32) (q_X6_readLines__1 x1) := by
  unfold f_X6_readLines
  simp only [sc_r260_11]
  rfl
def q_X6_readUnit_84__1 (s1 : wg_M) : Option (Int32 × wg_M) := some ((1 : Int32), s1)
theorem e_X6_readUnit_84__1 (s1 : wg_M) : q_X6_readUnit_84__1 s1 = some ((1 : Int32), s1) := rfl
theorem e_X6_readUnit_84 (σ : wg_M) : f_X6_readUnit_84 260 σ = wg_st σ 260 7 ((σ 260 7) + (1 : Int32)) q_X6_readUnit_84__1 := rfl
def q_X6_readUnit__8 (_u8 : Int32) (s8 : wg_M) : Option (Int32 × wg_M) := f_X6_readUnit_84  260 s8
def q_X6_readUnit__7 (s4 : wg_M) (v7 : Int32) : Option (Int32 × wg_M) := wg_bd (f_X3_put 266 (3 : Int32) (v7 - (256 : Int32)) s4) q_X6_readUnit__8
def q_X6_readUnit__6 (v5 : Int32) (s6 : wg_M) : Option (Int32 × wg_M) := wg_bz v5 (some (v5, s6))
def q_X6_readUnit__5 (v3 : Int32) (s4 : wg_M) : Option (Int32 × wg_M) := if v3 = 0 then (wg_bd (f_X6_fail 260 (1 : Int32) s4) q_X6_readUnit__6) else (wg_ga 401 (s4 262) (s4 260 7) (q_X6_readUnit__7 s4))
def q_X6_readUnit__4 (σ : wg_M) (v2 : Int32) : Option (Int32 × wg_M) := wg_bd (f_X11_within v2 (256 : Int32) (265 : Int32) σ) q_X6_readUnit__5
def q_X6_readUnit__3 (_u3 : Int32) (s10 : wg_M) : Option (Int32 × wg_M) := f_X6_readUnit_84  260 s10
def q_X6_readUnit__2 (σ : wg_M) (v9 : Int32) : Option (Int32 × wg_M) := wg_bd (f_X3_put 266 (2 : Int32) v9 σ) q_X6_readUnit__3
def q_X6_readUnit__1 (σ : wg_M) (v1 : Int32) : Option (Int32 × wg_M) := if v1 = (2 : Int32) then (wg_ga 401 (σ 263) (σ 260 7) (q_X6_readUnit__2 σ)) else (wg_ga 401 (σ 262) (σ 260 7) (q_X6_readUnit__4 σ))
theorem e_X6_readUnit__1 (σ : wg_M) (v1 : Int32) : q_X6_readUnit__1 σ v1 = if v1 = (2 : Int32) then (wg_ga 401 (σ 263) (σ 260 7) (q_X6_readUnit__2 σ)) else (wg_ga 401 (σ 262) (σ 260 7) (q_X6_readUnit__4 σ)) := rfl
theorem e_X6_readUnit__2 (σ : wg_M) (v9 : Int32) : q_X6_readUnit__2 σ v9 = wg_bd (f_X3_put 266 (2 : Int32) v9 σ) q_X6_readUnit__3 := rfl
theorem e_X6_readUnit__3 (_u3 : Int32) (s10 : wg_M) : q_X6_readUnit__3 _u3 s10 = f_X6_readUnit_84  260 s10 := rfl
theorem e_X6_readUnit__4 (σ : wg_M) (v2 : Int32) : q_X6_readUnit__4 σ v2 = wg_bd (f_X11_within v2 (256 : Int32) (265 : Int32) σ) q_X6_readUnit__5 := rfl
theorem e_X6_readUnit__5 (v3 : Int32) (s4 : wg_M) : q_X6_readUnit__5 v3 s4 = if v3 = 0 then (wg_bd (f_X6_fail 260 (1 : Int32) s4) q_X6_readUnit__6) else (wg_ga 401 (s4 262) (s4 260 7) (q_X6_readUnit__7 s4)) := rfl
theorem e_X6_readUnit__6 (v5 : Int32) (s6 : wg_M) : q_X6_readUnit__6 v5 s6 = wg_bz v5 (some (v5, s6)) := rfl
theorem e_X6_readUnit__7 (s4 : wg_M) (v7 : Int32) : q_X6_readUnit__7 s4 v7 = wg_bd (f_X3_put 266 (3 : Int32) (v7 - (256 : Int32)) s4) q_X6_readUnit__8 := rfl
theorem e_X6_readUnit__8 (_u8 : Int32) (s8 : wg_M) : q_X6_readUnit__8 _u8 s8 = f_X6_readUnit_84  260 s8 := rfl
theorem e_X6_readUnit (σ : wg_M) : f_X6_readUnit 260 σ = wg_ga 401 (σ 262) (σ 260 7) (q_X6_readUnit__1 σ) := by
  unfold f_X6_readUnit
  simp only [sc_n262, sc_n263, sc_r260_3, sc_r260_4, sc_r260_10]
  rfl
def q_X6_readProduct_128__1 (k9 : Nat → wg_M → Option (Int32 × wg_M)) (_u1 : Int32) (s1 : wg_M) : Option (Int32 × wg_M) := k9 260 s1
theorem e_X6_readProduct_128__1 (k9 : Nat → wg_M → Option (Int32 × wg_M)) (_u1 : Int32) (s1 : wg_M) : q_X6_readProduct_128__1 k9 _u1 s1 = k9 260 s1 := rfl
theorem e_X6_readProduct_128 (k9 : Nat → wg_M → Option (Int32 × wg_M)) (x2 : Int32) (t0 : Int32) (t1 : Nat) (σ : wg_M) : f_X6_readProduct_128 k9 260 x2 t0 t1 σ = wg_bd (f_X3_put t1 t0 x2 σ) (q_X6_readProduct_128__1 k9) := rfl
theorem e_X6_readProduct_113 (k9 : Nat → wg_M → Option (Int32 × wg_M)) (x1 : Int32) (x2 : Int32) (σ : wg_M) : f_X6_readProduct_113 k9 260 x1 x2 σ = if x1 = 0 then (f_X6_readProduct_128 k9 260 x2 (42 : Int32) 266 σ) else (f_X6_readProduct_128 k9 260 x2 (47 : Int32) 266 σ) := by
  unfold f_X6_readProduct_113
  simp only [sc_r260_10]
def q_X6_readProduct_94__1 (k9 : Nat → wg_M → Option (Int32 × wg_M)) (x1 : Int32) (t0 : Int32) (v1 : Int32) (s2 : wg_M) : Option (Int32 × wg_M) := if v1 = 0 then (some ((0 : Int32), s2)) else (f_X6_readProduct_113 k9 260 x1 t0 s2)
theorem e_X6_readProduct_94__1 (k9 : Nat → wg_M → Option (Int32 × wg_M)) (x1 : Int32) (t0 : Int32) (v1 : Int32) (s2 : wg_M) : q_X6_readProduct_94__1 k9 x1 t0 v1 s2 = if v1 = 0 then (some ((0 : Int32), s2)) else (f_X6_readProduct_113 k9 260 x1 t0 s2) := rfl
theorem e_X6_readProduct_94 (k9 : Nat → wg_M → Option (Int32 × wg_M)) (x1 : Int32) (t0 : Int32) (σ : wg_M) : f_X6_readProduct_94 k9 260 x1 t0 σ = if t0 = (-1 : Int32) then (some ((0 : Int32), σ)) else (if x1 = 0 then (wg_bd (f_X6_readUnit 260 σ) (q_X6_readProduct_94__1 k9 x1 t0)) else (f_X6_readProduct_113 k9 260 x1 t0 σ)) := rfl
def q_X6_readProduct_67__2 (k9 : Nat → wg_M → Option (Int32 × wg_M)) (t0 : Int32) (v2 : Int32) (s3 : wg_M) : Option (Int32 × wg_M) := f_X6_readProduct_94 k9 260 t0 v2 s3
def q_X6_readProduct_67__1 (k9 : Nat → wg_M → Option (Int32 × wg_M)) (t0 : Int32) (s1 : wg_M) : Option (Int32 × wg_M) := if t0 = 0 then (f_X6_readProduct_94 k9 260 t0 (0 : Int32) s1) else (wg_bd (f_X6_readNumber 260 (1 : Int32) (9999 : Int32) s1) (q_X6_readProduct_67__2 k9 t0))
theorem e_X6_readProduct_67__1 (k9 : Nat → wg_M → Option (Int32 × wg_M)) (t0 : Int32) (s1 : wg_M) : q_X6_readProduct_67__1 k9 t0 s1 = if t0 = 0 then (f_X6_readProduct_94 k9 260 t0 (0 : Int32) s1) else (wg_bd (f_X6_readNumber 260 (1 : Int32) (9999 : Int32) s1) (q_X6_readProduct_67__2 k9 t0)) := rfl
theorem e_X6_readProduct_67__2 (k9 : Nat → wg_M → Option (Int32 × wg_M)) (t0 : Int32) (v2 : Int32) (s3 : wg_M) : q_X6_readProduct_67__2 k9 t0 v2 s3 = f_X6_readProduct_94 k9 260 t0 v2 s3 := rfl
theorem e_X6_readProduct_67 (k9 : Nat → wg_M → Option (Int32 × wg_M)) (t0 : Int32) (σ : wg_M) : f_X6_readProduct_67 k9 260 t0 σ = wg_st σ 260 7 ((σ 260 7) + (1 : Int32)) (q_X6_readProduct_67__1 k9 t0) := rfl
def q_X6_readProduct_48__1 (k9 : Nat → wg_M → Option (Int32 × wg_M)) (σ : wg_M) (v1 : Int32) : Option (Int32 × wg_M) := if v1 = (47 : Int32) then (f_X6_readProduct_67 k9 260 (1 : Int32) σ) else (f_X6_readProduct_67 k9 260 (0 : Int32) σ)
theorem e_X6_readProduct_48__1 (k9 : Nat → wg_M → Option (Int32 × wg_M)) (σ : wg_M) (v1 : Int32) : q_X6_readProduct_48__1 k9 σ v1 = if v1 = (47 : Int32) then (f_X6_readProduct_67 k9 260 (1 : Int32) σ) else (f_X6_readProduct_67 k9 260 (0 : Int32) σ) := rfl
theorem e_X6_readProduct_48 (k9 : Nat → wg_M → Option (Int32 × wg_M)) (σ : wg_M) : f_X6_readProduct_48 k9 260 σ = wg_ga 401 (σ 262) (σ 260 7) (q_X6_readProduct_48__1 k9 σ) := by
  unfold f_X6_readProduct_48
  simp only [sc_n262, sc_r260_3]
  rfl
def q_X6_readProduct_9__2 (n : Nat) (σ : wg_M) (v2 : Int32) : Option (Int32 × wg_M) := if v2 = (47 : Int32) then (f_X6_readProduct_48 (f_X6_readProduct_9  n) 260 σ) else (some ((1 : Int32), σ))
def q_X6_readProduct_9__1 (n : Nat) (σ : wg_M) (v1 : Int32) : Option (Int32 × wg_M) := if v1 = (42 : Int32) then (f_X6_readProduct_48 (f_X6_readProduct_9  n) 260 σ) else (wg_ga 401 (σ 262) (σ 260 7) (q_X6_readProduct_9__2 n σ))
theorem e_X6_readProduct_9__1 (n : Nat) (σ : wg_M) (v1 : Int32) : q_X6_readProduct_9__1 n σ v1 = if v1 = (42 : Int32) then (f_X6_readProduct_48 (f_X6_readProduct_9  n) 260 σ) else (wg_ga 401 (σ 262) (σ 260 7) (q_X6_readProduct_9__2 n σ)) := rfl
theorem e_X6_readProduct_9__2 (n : Nat) (σ : wg_M) (v2 : Int32) : q_X6_readProduct_9__2 n σ v2 = if v2 = (47 : Int32) then (f_X6_readProduct_48 (f_X6_readProduct_9  n) 260 σ) else (some ((1 : Int32), σ)) := rfl
theorem e_X6_readProduct_9 (n : Nat) (σ : wg_M) : f_X6_readProduct_9 (n + 1) 260 σ = if (σ 260 6) ≤ (σ 260 7) then (some ((1 : Int32), σ)) else (wg_ga 401 (σ 262) (σ 260 7) (q_X6_readProduct_9__1 n σ)) := by
  rw [f_X6_readProduct_9]
  simp only [sc_n262, sc_r260_3]
  rfl
def q_X6_readProduct__1 (v1 : Int32) (s2 : wg_M) : Option (Int32 × wg_M) := if v1 = 0 then (some ((0 : Int32), s2)) else (f_X6_readProduct_9  wg_N 260 s2)
theorem e_X6_readProduct__1 (v1 : Int32) (s2 : wg_M) : q_X6_readProduct__1 v1 s2 = if v1 = 0 then (some ((0 : Int32), s2)) else (f_X6_readProduct_9  wg_N 260 s2) := rfl
theorem e_X6_readProduct (σ : wg_M) : f_X6_readProduct 260 σ = wg_bd (f_X6_readUnit 260 σ) q_X6_readProduct__1 := rfl
def q_X6_readSum_48__4 (k9 : Nat → wg_M → Option (Int32 × wg_M)) (_u4 : Int32) (s5 : wg_M) : Option (Int32 × wg_M) := k9 260 s5
def q_X6_readSum_48__3 (k9 : Nat → wg_M → Option (Int32 × wg_M)) (v1 : Int32) (v3 : Int32) (s4 : wg_M) : Option (Int32 × wg_M) := if v3 = 0 then (some ((0 : Int32), s4)) else (wg_bd (f_X3_put 266 v1 (0 : Int32) s4) (q_X6_readSum_48__4 k9))
def q_X6_readSum_48__2 (k9 : Nat → wg_M → Option (Int32 × wg_M)) (v1 : Int32) (s2 : wg_M) : Option (Int32 × wg_M) := wg_bd (f_X6_readProduct 260 s2) (q_X6_readSum_48__3 k9 v1)
def q_X6_readSum_48__1 (k9 : Nat → wg_M → Option (Int32 × wg_M)) (σ : wg_M) (v1 : Int32) : Option (Int32 × wg_M) := wg_st σ 260 7 ((σ 260 7) + (1 : Int32)) (q_X6_readSum_48__2 k9 v1)
theorem e_X6_readSum_48__1 (k9 : Nat → wg_M → Option (Int32 × wg_M)) (σ : wg_M) (v1 : Int32) : q_X6_readSum_48__1 k9 σ v1 = wg_st σ 260 7 ((σ 260 7) + (1 : Int32)) (q_X6_readSum_48__2 k9 v1) := rfl
theorem e_X6_readSum_48__2 (k9 : Nat → wg_M → Option (Int32 × wg_M)) (v1 : Int32) (s2 : wg_M) : q_X6_readSum_48__2 k9 v1 s2 = wg_bd (f_X6_readProduct 260 s2) (q_X6_readSum_48__3 k9 v1) := rfl
theorem e_X6_readSum_48__3 (k9 : Nat → wg_M → Option (Int32 × wg_M)) (v1 : Int32) (v3 : Int32) (s4 : wg_M) : q_X6_readSum_48__3 k9 v1 v3 s4 = if v3 = 0 then (some ((0 : Int32), s4)) else (wg_bd (f_X3_put 266 v1 (0 : Int32) s4) (q_X6_readSum_48__4 k9)) := rfl
theorem e_X6_readSum_48__4 (k9 : Nat → wg_M → Option (Int32 × wg_M)) (_u4 : Int32) (s5 : wg_M) : q_X6_readSum_48__4 k9 _u4 s5 = k9 260 s5 := rfl
theorem e_X6_readSum_48 (k9 : Nat → wg_M → Option (Int32 × wg_M)) (σ : wg_M) : f_X6_readSum_48 k9 260 σ = wg_ga 401 (σ 262) (σ 260 7) (q_X6_readSum_48__1 k9 σ) := by
  unfold f_X6_readSum_48
  simp only [sc_n262, sc_r260_3, sc_r260_10]
  rfl
def q_X6_readSum_9__2 (n : Nat) (σ : wg_M) (v2 : Int32) : Option (Int32 × wg_M) := if v2 = (45 : Int32) then (f_X6_readSum_48 (f_X6_readSum_9  n) 260 σ) else (some ((1 : Int32), σ))
def q_X6_readSum_9__1 (n : Nat) (σ : wg_M) (v1 : Int32) : Option (Int32 × wg_M) := if v1 = (43 : Int32) then (f_X6_readSum_48 (f_X6_readSum_9  n) 260 σ) else (wg_ga 401 (σ 262) (σ 260 7) (q_X6_readSum_9__2 n σ))
theorem e_X6_readSum_9__1 (n : Nat) (σ : wg_M) (v1 : Int32) : q_X6_readSum_9__1 n σ v1 = if v1 = (43 : Int32) then (f_X6_readSum_48 (f_X6_readSum_9  n) 260 σ) else (wg_ga 401 (σ 262) (σ 260 7) (q_X6_readSum_9__2 n σ)) := rfl
theorem e_X6_readSum_9__2 (n : Nat) (σ : wg_M) (v2 : Int32) : q_X6_readSum_9__2 n σ v2 = if v2 = (45 : Int32) then (f_X6_readSum_48 (f_X6_readSum_9  n) 260 σ) else (some ((1 : Int32), σ)) := rfl
theorem e_X6_readSum_9 (n : Nat) (σ : wg_M) : f_X6_readSum_9 (n + 1) 260 σ = if (σ 260 6) ≤ (σ 260 7) then (some ((1 : Int32), σ)) else (wg_ga 401 (σ 262) (σ 260 7) (q_X6_readSum_9__1 n σ)) := by
  rw [f_X6_readSum_9]
  simp only [sc_n262, sc_r260_3]
  rfl
def q_X6_readSum__1 (v1 : Int32) (s2 : wg_M) : Option (Int32 × wg_M) := if v1 = 0 then (some ((0 : Int32), s2)) else (f_X6_readSum_9  wg_N 260 s2)
theorem e_X6_readSum__1 (v1 : Int32) (s2 : wg_M) : q_X6_readSum__1 v1 s2 = if v1 = 0 then (some ((0 : Int32), s2)) else (f_X6_readSum_9  wg_N 260 s2) := rfl
theorem e_X6_readSum (σ : wg_M) : f_X6_readSum 260 σ = wg_bd (f_X6_readProduct 260 σ) q_X6_readSum__1 := rfl
def q_X6_await__2 (s2 : wg_M) : Option (Int32 × wg_M) := some (0, s2)
def q_X6_await__1 (s1 : wg_M) : Option (Int32 × wg_M) := wg_st s1 260 13 ((s1 260 13) + (1 : Int32)) q_X6_await__2
theorem e_X6_await__1 (s1 : wg_M) : q_X6_await__1 s1 = wg_st s1 260 13 ((s1 260 13) + (1 : Int32)) q_X6_await__2 := rfl
theorem e_X6_await__2 (s2 : wg_M) : q_X6_await__2 s2 = some (0, s2) := rfl
theorem e_X6_await (x1 : Int32) (σ : wg_M) : f_X6_await 260 x1 σ = if (Int32.ofNat 32) ≤ (σ 260 13) then (some (0, σ)) else (wg_sa 32 σ 265 (σ 260 13) x1 q_X6_await__1) := by
  unfold f_X6_await
  simp only [sc_n265, sc_r260_12]
  rfl
def q_X6_readOpening_89__4 (k0 : Nat → wg_M → Option (Int32 × wg_M)) (s4 : wg_M) : Option (Int32 × wg_M) := k0 260 s4
def q_X6_readOpening_89__3 (k0 : Nat → wg_M → Option (Int32 × wg_M)) (_u3 : Int32) (s3 : wg_M) : Option (Int32 × wg_M) := wg_st s3 260 7 ((s3 260 7) + (1 : Int32)) (q_X6_readOpening_89__4 k0)
def q_X6_readOpening_89__2 (k0 : Nat → wg_M → Option (Int32 × wg_M)) (s1 : wg_M) (v2 : Int32) : Option (Int32 × wg_M) := wg_bd (f_X6_await 260 v2 s1) (q_X6_readOpening_89__3 k0)
def q_X6_readOpening_89__1 (k0 : Nat → wg_M → Option (Int32 × wg_M)) (s1 : wg_M) : Option (Int32 × wg_M) := wg_ga 401 (s1 262) (s1 260 7) (q_X6_readOpening_89__2 k0 s1)
theorem e_X6_readOpening_89__1 (k0 : Nat → wg_M → Option (Int32 × wg_M)) (s1 : wg_M) : q_X6_readOpening_89__1 k0 s1 = wg_ga 401 (s1 262) (s1 260 7) (q_X6_readOpening_89__2 k0 s1) := rfl
theorem e_X6_readOpening_89__2 (k0 : Nat → wg_M → Option (Int32 × wg_M)) (s1 : wg_M) (v2 : Int32) : q_X6_readOpening_89__2 k0 s1 v2 = wg_bd (f_X6_await 260 v2 s1) (q_X6_readOpening_89__3 k0) := rfl
theorem e_X6_readOpening_89__3 (k0 : Nat → wg_M → Option (Int32 × wg_M)) (_u3 : Int32) (s3 : wg_M) : q_X6_readOpening_89__3 k0 _u3 s3 = wg_st s3 260 7 ((s3 260 7) + (1 : Int32)) (q_X6_readOpening_89__4 k0) := rfl
theorem e_X6_readOpening_89__4 (k0 : Nat → wg_M → Option (Int32 × wg_M)) (s4 : wg_M) : q_X6_readOpening_89__4 k0 s4 = k0 260 s4 := rfl
theorem e_X6_readOpening_89 (k0 : Nat → wg_M → Option (Int32 × wg_M)) (t0 : Int32) (t1 : Int32) (t2 : Nat) (σ : wg_M) : f_X6_readOpening_89 k0 260 t0 t1 t2 σ = wg_st σ t2 15 (t1 + t0) (q_X6_readOpening_89__1 k0) := by
  unfold f_X6_readOpening_89
  simp only [sc_n262, sc_r260_3]
  rfl
def q_X6_readOpening_40__3 (v3 : Int32) (s4 : wg_M) : Option (Int32 × wg_M) := wg_bz v3 (some (v3, s4))
def q_X6_readOpening_40__2 (k0 : Nat → wg_M → Option (Int32 × wg_M)) (s1 : wg_M) (v2 : Int32) : Option (Int32 × wg_M) := if v2 = (40 : Int32) then (f_X6_readOpening_89 k0 260 (1 : Int32) (s1 260 15) 260 s1) else (f_X6_readOpening_89 k0 260 (0 : Int32) (s1 260 15) 260 s1)
def q_X6_readOpening_40__1 (k0 : Nat → wg_M → Option (Int32 × wg_M)) (s1 : wg_M) : Option (Int32 × wg_M) := wg_ga 401 (s1 262) (s1 260 7) (q_X6_readOpening_40__2 k0 s1)
theorem e_X6_readOpening_40__1 (k0 : Nat → wg_M → Option (Int32 × wg_M)) (s1 : wg_M) : q_X6_readOpening_40__1 k0 s1 = wg_ga 401 (s1 262) (s1 260 7) (q_X6_readOpening_40__2 k0 s1) := rfl
theorem e_X6_readOpening_40__2 (k0 : Nat → wg_M → Option (Int32 × wg_M)) (s1 : wg_M) (v2 : Int32) : q_X6_readOpening_40__2 k0 s1 v2 = if v2 = (40 : Int32) then (f_X6_readOpening_89 k0 260 (1 : Int32) (s1 260 15) 260 s1) else (f_X6_readOpening_89 k0 260 (0 : Int32) (s1 260 15) 260 s1) := rfl
theorem e_X6_readOpening_40__3 (v3 : Int32) (s4 : wg_M) : q_X6_readOpening_40__3 v3 s4 = wg_bz v3 (some (v3, s4)) := rfl
theorem e_X6_readOpening_40 (k0 : Nat → wg_M → Option (Int32 × wg_M)) (σ : wg_M) : f_X6_readOpening_40 k0 260 σ = if (σ 260 14) < (8 : Int32) then (wg_st σ 260 14 ((σ 260 14) + (1 : Int32)) (q_X6_readOpening_40__1 k0)) else (wg_bd (f_X6_fail 260 (3 : Int32) σ) q_X6_readOpening_40__3) := by
  unfold f_X6_readOpening_40
  simp only [sc_n262, sc_r260_3]
  rfl
def q_X6_readOpening_0__2 (n : Nat) (σ : wg_M) (v2 : Int32) : Option (Int32 × wg_M) := if v2 = (272 : Int32) then (f_X6_readOpening_40 (f_X6_readOpening_0  n) 260 σ) else (some ((1 : Int32), σ))
def q_X6_readOpening_0__1 (n : Nat) (σ : wg_M) (v1 : Int32) : Option (Int32 × wg_M) := if v1 = (40 : Int32) then (f_X6_readOpening_40 (f_X6_readOpening_0  n) 260 σ) else (wg_ga 401 (σ 262) (σ 260 7) (q_X6_readOpening_0__2 n σ))
theorem e_X6_readOpening_0__1 (n : Nat) (σ : wg_M) (v1 : Int32) : q_X6_readOpening_0__1 n σ v1 = if v1 = (40 : Int32) then (f_X6_readOpening_40 (f_X6_readOpening_0  n) 260 σ) else (wg_ga 401 (σ 262) (σ 260 7) (q_X6_readOpening_0__2 n σ)) := rfl
theorem e_X6_readOpening_0__2 (n : Nat) (σ : wg_M) (v2 : Int32) : q_X6_readOpening_0__2 n σ v2 = if v2 = (272 : Int32) then (f_X6_readOpening_40 (f_X6_readOpening_0  n) 260 σ) else (some ((1 : Int32), σ)) := rfl
theorem e_X6_readOpening_0 (n : Nat) (σ : wg_M) : f_X6_readOpening_0 (n + 1) 260 σ = if (σ 260 6) ≤ (σ 260 7) then (some ((1 : Int32), σ)) else (wg_ga 401 (σ 262) (σ 260 7) (q_X6_readOpening_0__1 n σ)) := by
  rw [f_X6_readOpening_0]
  simp only [sc_n262, sc_r260_3]
  rfl
theorem e_X6_readOpening (σ : wg_M) : f_X6_readOpening 260 σ = f_X6_readOpening_0  wg_N 260 σ := rfl
def q_X6_isAwaited__1 (x1 : Int32) (σ : wg_M) (v1 : Int32) : Option (Int32 × wg_M) := if v1 = x1 then (some ((1 : Int32), σ)) else (some ((0 : Int32), σ))
theorem e_X6_isAwaited__1 (x1 : Int32) (σ : wg_M) (v1 : Int32) : q_X6_isAwaited__1 x1 σ v1 = if v1 = x1 then (some ((1 : Int32), σ)) else (some ((0 : Int32), σ)) := rfl
theorem e_X6_isAwaited (x1 : Int32) (σ : wg_M) : f_X6_isAwaited 260 x1 σ = if (σ 260 13) ≤ 0 then (some ((0 : Int32), σ)) else (wg_ga 32 (σ 265) ((σ 260 13) - (1 : Int32)) (q_X6_isAwaited__1 x1 σ)) := by
  unfold f_X6_isAwaited
  simp only [sc_n265, sc_r260_12]
  rfl
def q_X6_settle_89__4 (s5 : wg_M) : Option (Int32 × wg_M) := some (0, s5)
def q_X6_settle_89__3 (_u3 : Int32) (s4 : wg_M) : Option (Int32 × wg_M) := wg_st s4 260 13 ((s4 260 13) - (1 : Int32)) q_X6_settle_89__4
def q_X6_settle_89__2 (v2 : Int32) (s3 : wg_M) : Option (Int32 × wg_M) := if v2 = 0 then (some (0, s3)) else (wg_bd (f_X3_put 266 (270 : Int32) (0 : Int32) s3) q_X6_settle_89__3)
def q_X6_settle_89__1 (σ : wg_M) (v1 : Int32) : Option (Int32 × wg_M) := if v1 = (271 : Int32) then (some (0, σ)) else (wg_bd (f_X6_isAwaited 260 (270 : Int32) σ) q_X6_settle_89__2)
theorem e_X6_settle_89__1 (σ : wg_M) (v1 : Int32) : q_X6_settle_89__1 σ v1 = if v1 = (271 : Int32) then (some (0, σ)) else (wg_bd (f_X6_isAwaited 260 (270 : Int32) σ) q_X6_settle_89__2) := rfl
theorem e_X6_settle_89__2 (v2 : Int32) (s3 : wg_M) : q_X6_settle_89__2 v2 s3 = if v2 = 0 then (some (0, s3)) else (wg_bd (f_X3_put 266 (270 : Int32) (0 : Int32) s3) q_X6_settle_89__3) := rfl
theorem e_X6_settle_89__3 (_u3 : Int32) (s4 : wg_M) : q_X6_settle_89__3 _u3 s4 = wg_st s4 260 13 ((s4 260 13) - (1 : Int32)) q_X6_settle_89__4 := rfl
theorem e_X6_settle_89__4 (s5 : wg_M) : q_X6_settle_89__4 s5 = some (0, s5) := rfl
theorem e_X6_settle_89 (σ : wg_M) : f_X6_settle_89 260 σ = wg_ga 401 (σ 262) (σ 260 7) (q_X6_settle_89__1 σ) := by
  unfold f_X6_settle_89
  simp only [sc_n262, sc_r260_3, sc_r260_10]
  rfl
def q_X6_settle_58__3 (s4 : wg_M) : Option (Int32 × wg_M) := f_X6_settle_89  260 s4
def q_X6_settle_58__2 (_u2 : Int32) (s3 : wg_M) : Option (Int32 × wg_M) := wg_st s3 260 13 ((s3 260 13) - (1 : Int32)) q_X6_settle_58__3
def q_X6_settle_58__1 (v1 : Int32) (s2 : wg_M) : Option (Int32 × wg_M) := if v1 = 0 then (f_X6_settle_89  260 s2) else (wg_bd (f_X3_put 266 (271 : Int32) (0 : Int32) s2) q_X6_settle_58__2)
theorem e_X6_settle_58__1 (v1 : Int32) (s2 : wg_M) : q_X6_settle_58__1 v1 s2 = if v1 = 0 then (f_X6_settle_89  260 s2) else (wg_bd (f_X3_put 266 (271 : Int32) (0 : Int32) s2) q_X6_settle_58__2) := rfl
theorem e_X6_settle_58__2 (_u2 : Int32) (s3 : wg_M) : q_X6_settle_58__2 _u2 s3 = wg_st s3 260 13 ((s3 260 13) - (1 : Int32)) q_X6_settle_58__3 := rfl
theorem e_X6_settle_58__3 (s4 : wg_M) : q_X6_settle_58__3 s4 = f_X6_settle_89  260 s4 := rfl
theorem e_X6_settle_58 (σ : wg_M) : f_X6_settle_58 260 σ = wg_bd (f_X6_isAwaited 260 (271 : Int32) σ) q_X6_settle_58__1 := by
  unfold f_X6_settle_58
  simp only [sc_r260_10]
  rfl
def q_X6_settle_0__4 (n : Nat) (s4 : wg_M) : Option (Int32 × wg_M) := f_X6_settle_0  n 260 s4
def q_X6_settle_0__3 (n : Nat) (s3 : wg_M) : Option (Int32 × wg_M) := wg_st s3 260 14 ((s3 260 14) - (1 : Int32)) (q_X6_settle_0__4 n)
def q_X6_settle_0__2 (n : Nat) (_u2 : Int32) (s2 : wg_M) : Option (Int32 × wg_M) := wg_st s2 260 13 ((s2 260 13) - (1 : Int32)) (q_X6_settle_0__3 n)
def q_X6_settle_0__1 (n : Nat) (σ : wg_M) (v1 : Int32) : Option (Int32 × wg_M) := if v1 = (272 : Int32) then (wg_bd (f_X3_put 266 (272 : Int32) (0 : Int32) σ) (q_X6_settle_0__2 n)) else (f_X6_settle_58  260 σ)
theorem e_X6_settle_0__1 (n : Nat) (σ : wg_M) (v1 : Int32) : q_X6_settle_0__1 n σ v1 = if v1 = (272 : Int32) then (wg_bd (f_X3_put 266 (272 : Int32) (0 : Int32) σ) (q_X6_settle_0__2 n)) else (f_X6_settle_58  260 σ) := rfl
theorem e_X6_settle_0__2 (n : Nat) (_u2 : Int32) (s2 : wg_M) : q_X6_settle_0__2 n _u2 s2 = wg_st s2 260 13 ((s2 260 13) - (1 : Int32)) (q_X6_settle_0__3 n) := rfl
theorem e_X6_settle_0__3 (n : Nat) (s3 : wg_M) : q_X6_settle_0__3 n s3 = wg_st s3 260 14 ((s3 260 14) - (1 : Int32)) (q_X6_settle_0__4 n) := rfl
theorem e_X6_settle_0__4 (n : Nat) (s4 : wg_M) : q_X6_settle_0__4 n s4 = f_X6_settle_0  n 260 s4 := rfl
theorem e_X6_settle_0 (n : Nat) (σ : wg_M) : f_X6_settle_0 (n + 1) 260 σ = if (σ 260 13) ≤ 0 then (f_X6_settle_58  260 σ) else (wg_ga 32 (σ 265) ((σ 260 13) - (1 : Int32)) (q_X6_settle_0__1 n σ)) := by
  rw [f_X6_settle_0]
  simp only [sc_n265, sc_r260_10, sc_r260_12]
  rfl
theorem e_X6_settle (σ : wg_M) : f_X6_settle 260 σ = f_X6_settle_0  wg_N 260 σ := rfl
def q_X6_readClosing_4__6 (n : Nat) (_u6 : Int32) (s6 : wg_M) : Option (Int32 × wg_M) := f_X6_readClosing_4  n 260 s6
def q_X6_readClosing_4__5 (n : Nat) (s5 : wg_M) : Option (Int32 × wg_M) := wg_bd (f_X6_settle 260 s5) (q_X6_readClosing_4__6 n)
def q_X6_readClosing_4__4 (n : Nat) (s4 : wg_M) : Option (Int32 × wg_M) := wg_st s4 260 7 ((s4 260 7) + (1 : Int32)) (q_X6_readClosing_4__5 n)
def q_X6_readClosing_4__3 (n : Nat) (s3 : wg_M) : Option (Int32 × wg_M) := wg_st s3 260 14 ((s3 260 14) - (1 : Int32)) (q_X6_readClosing_4__4 n)
def q_X6_readClosing_4__2 (n : Nat) (s2 : wg_M) : Option (Int32 × wg_M) := wg_st s2 260 15 ((s2 260 15) - (1 : Int32)) (q_X6_readClosing_4__3 n)
def q_X6_readClosing_4__1 (n : Nat) (σ : wg_M) (v1 : Int32) : Option (Int32 × wg_M) := if v1 = (41 : Int32) then (if (σ 260 15) ≤ 0 then (some (0, σ)) else (wg_st σ 260 13 ((σ 260 13) - (1 : Int32)) (q_X6_readClosing_4__2 n))) else (some (0, σ))
theorem e_X6_readClosing_4__1 (n : Nat) (σ : wg_M) (v1 : Int32) : q_X6_readClosing_4__1 n σ v1 = if v1 = (41 : Int32) then (if (σ 260 15) ≤ 0 then (some (0, σ)) else (wg_st σ 260 13 ((σ 260 13) - (1 : Int32)) (q_X6_readClosing_4__2 n))) else (some (0, σ)) := rfl
theorem e_X6_readClosing_4__2 (n : Nat) (s2 : wg_M) : q_X6_readClosing_4__2 n s2 = wg_st s2 260 15 ((s2 260 15) - (1 : Int32)) (q_X6_readClosing_4__3 n) := rfl
theorem e_X6_readClosing_4__3 (n : Nat) (s3 : wg_M) : q_X6_readClosing_4__3 n s3 = wg_st s3 260 14 ((s3 260 14) - (1 : Int32)) (q_X6_readClosing_4__4 n) := rfl
theorem e_X6_readClosing_4__4 (n : Nat) (s4 : wg_M) : q_X6_readClosing_4__4 n s4 = wg_st s4 260 7 ((s4 260 7) + (1 : Int32)) (q_X6_readClosing_4__5 n) := rfl
theorem e_X6_readClosing_4__5 (n : Nat) (s5 : wg_M) : q_X6_readClosing_4__5 n s5 = wg_bd (f_X6_settle 260 s5) (q_X6_readClosing_4__6 n) := rfl
theorem e_X6_readClosing_4__6 (n : Nat) (_u6 : Int32) (s6 : wg_M) : q_X6_readClosing_4__6 n _u6 s6 = f_X6_readClosing_4  n 260 s6 := rfl
theorem e_X6_readClosing_4 (n : Nat) (σ : wg_M) : f_X6_readClosing_4 (n + 1) 260 σ = if (σ 260 6) ≤ (σ 260 7) then (some (0, σ)) else (wg_ga 401 (σ 262) (σ 260 7) (q_X6_readClosing_4__1 n σ)) := by
  rw [f_X6_readClosing_4]
  simp only [sc_n262, sc_r260_3]
  rfl
def q_X6_readClosing__1 (_u1 : Int32) (s1 : wg_M) : Option (Int32 × wg_M) := f_X6_readClosing_4  wg_N 260 s1
theorem e_X6_readClosing__1 (_u1 : Int32) (s1 : wg_M) : q_X6_readClosing__1 _u1 s1 = f_X6_readClosing_4  wg_N 260 s1 := rfl
theorem e_X6_readClosing (σ : wg_M) : f_X6_readClosing 260 σ = wg_bd (f_X6_settle 260 σ) q_X6_readClosing__1 := rfl
theorem e_X6_readCondition_153 (σ : wg_M) : f_X6_readCondition_153 σ = some ((1 : Int32), σ) := rfl
def q_X6_readCondition_159__3 (k15 : Nat → wg_M → Option (Int32 × wg_M)) (s3 : wg_M) : Option (Int32 × wg_M) := k15 260 s3
def q_X6_readCondition_159__2 (k15 : Nat → wg_M → Option (Int32 × wg_M)) (_u2 : Int32) (s2 : wg_M) : Option (Int32 × wg_M) := wg_st s2 260 7 ((s2 260 7) + (1 : Int32)) (q_X6_readCondition_159__3 k15)
def q_X6_readCondition_159__1 (k15 : Nat → wg_M → Option (Int32 × wg_M)) (σ : wg_M) (v1 : Int32) : Option (Int32 × wg_M) := wg_bd (f_X6_await 260 v1 σ) (q_X6_readCondition_159__2 k15)
theorem e_X6_readCondition_159__1 (k15 : Nat → wg_M → Option (Int32 × wg_M)) (σ : wg_M) (v1 : Int32) : q_X6_readCondition_159__1 k15 σ v1 = wg_bd (f_X6_await 260 v1 σ) (q_X6_readCondition_159__2 k15) := rfl
theorem e_X6_readCondition_159__2 (k15 : Nat → wg_M → Option (Int32 × wg_M)) (_u2 : Int32) (s2 : wg_M) : q_X6_readCondition_159__2 k15 _u2 s2 = wg_st s2 260 7 ((s2 260 7) + (1 : Int32)) (q_X6_readCondition_159__3 k15) := rfl
theorem e_X6_readCondition_159__3 (k15 : Nat → wg_M → Option (Int32 × wg_M)) (s3 : wg_M) : q_X6_readCondition_159__3 k15 s3 = k15 260 s3 := rfl
theorem e_X6_readCondition_159 (k15 : Nat → wg_M → Option (Int32 × wg_M)) (σ : wg_M) : f_X6_readCondition_159 k15 260 σ = wg_ga 401 (σ 262) (σ 260 7) (q_X6_readCondition_159__1 k15 σ) := by
  unfold f_X6_readCondition_159
  simp only [sc_n262, sc_r260_3]
  rfl
def q_X6_readCondition_76__7 (v8 : Int32) (s9 : wg_M) : Option (Int32 × wg_M) := if v8 = 0 then (some ((0 : Int32), s9)) else (f_X6_readCondition_153   s9)
def q_X6_readCondition_76__6 (k15 : Nat → wg_M → Option (Int32 × wg_M)) (s5 : wg_M) (v7 : Int32) : Option (Int32 × wg_M) := if v7 = (270 : Int32) then (f_X6_readCondition_159 k15 260 s5) else (if (s5 260 15) = 0 then (f_X6_readCondition_153   s5) else (wg_bd (f_X6_fail 260 (1 : Int32) s5) q_X6_readCondition_76__7))
def q_X6_readCondition_76__5 (k15 : Nat → wg_M → Option (Int32 × wg_M)) (s5 : wg_M) (v6 : Int32) : Option (Int32 × wg_M) := if v6 = (271 : Int32) then (f_X6_readCondition_159 k15 260 s5) else (wg_ga 401 (s5 262) (s5 260 7) (q_X6_readCondition_76__6 k15 s5))
def q_X6_readCondition_76__4 (k15 : Nat → wg_M → Option (Int32 × wg_M)) (_u4 : Int32) (s5 : wg_M) : Option (Int32 × wg_M) := wg_ga 401 (s5 262) (s5 260 7) (q_X6_readCondition_76__5 k15 s5)
def q_X6_readCondition_76__3 (k15 : Nat → wg_M → Option (Int32 × wg_M)) (_u3 : Int32) (s4 : wg_M) : Option (Int32 × wg_M) := wg_bd (f_X6_readClosing 260 s4) (q_X6_readCondition_76__4 k15)
def q_X6_readCondition_76__2 (k15 : Nat → wg_M → Option (Int32 × wg_M)) (x1 : Int32) (v2 : Int32) (s3 : wg_M) : Option (Int32 × wg_M) := if v2 = 0 then (some ((0 : Int32), s3)) else (wg_bd (f_X3_put 266 x1 (0 : Int32) s3) (q_X6_readCondition_76__3 k15))
def q_X6_readCondition_76__1 (k15 : Nat → wg_M → Option (Int32 × wg_M)) (x1 : Int32) (s1 : wg_M) : Option (Int32 × wg_M) := wg_bd (f_X6_readSum 260 s1) (q_X6_readCondition_76__2 k15 x1)
theorem e_X6_readCondition_76__1 (k15 : Nat → wg_M → Option (Int32 × wg_M)) (x1 : Int32) (s1 : wg_M) : q_X6_readCondition_76__1 k15 x1 s1 = wg_bd (f_X6_readSum 260 s1) (q_X6_readCondition_76__2 k15 x1) := rfl
theorem e_X6_readCondition_76__2 (k15 : Nat → wg_M → Option (Int32 × wg_M)) (x1 : Int32) (v2 : Int32) (s3 : wg_M) : q_X6_readCondition_76__2 k15 x1 v2 s3 = if v2 = 0 then (some ((0 : Int32), s3)) else (wg_bd (f_X3_put 266 x1 (0 : Int32) s3) (q_X6_readCondition_76__3 k15)) := rfl
theorem e_X6_readCondition_76__3 (k15 : Nat → wg_M → Option (Int32 × wg_M)) (_u3 : Int32) (s4 : wg_M) : q_X6_readCondition_76__3 k15 _u3 s4 = wg_bd (f_X6_readClosing 260 s4) (q_X6_readCondition_76__4 k15) := rfl
theorem e_X6_readCondition_76__4 (k15 : Nat → wg_M → Option (Int32 × wg_M)) (_u4 : Int32) (s5 : wg_M) : q_X6_readCondition_76__4 k15 _u4 s5 = wg_ga 401 (s5 262) (s5 260 7) (q_X6_readCondition_76__5 k15 s5) := rfl
theorem e_X6_readCondition_76__5 (k15 : Nat → wg_M → Option (Int32 × wg_M)) (s5 : wg_M) (v6 : Int32) : q_X6_readCondition_76__5 k15 s5 v6 = if v6 = (271 : Int32) then (f_X6_readCondition_159 k15 260 s5) else (wg_ga 401 (s5 262) (s5 260 7) (q_X6_readCondition_76__6 k15 s5)) := rfl
theorem e_X6_readCondition_76__6 (k15 : Nat → wg_M → Option (Int32 × wg_M)) (s5 : wg_M) (v7 : Int32) : q_X6_readCondition_76__6 k15 s5 v7 = if v7 = (270 : Int32) then (f_X6_readCondition_159 k15 260 s5) else (if (s5 260 15) = 0 then (f_X6_readCondition_153   s5) else (wg_bd (f_X6_fail 260 (1 : Int32) s5) q_X6_readCondition_76__7)) := rfl
theorem e_X6_readCondition_76__7 (v8 : Int32) (s9 : wg_M) : q_X6_readCondition_76__7 v8 s9 = if v8 = 0 then (some ((0 : Int32), s9)) else (f_X6_readCondition_153   s9) := rfl
theorem e_X6_readCondition_76 (k15 : Nat → wg_M → Option (Int32 × wg_M)) (x1 : Int32) (σ : wg_M) : f_X6_readCondition_76 k15 260 x1 σ = wg_st σ 260 7 ((σ 260 7) + (1 : Int32)) (q_X6_readCondition_76__1 k15 x1) := by
  unfold f_X6_readCondition_76
  simp only [sc_n262, sc_r260_3, sc_r260_10]
  rfl
def q_X6_readCondition_15__5 (v8 : Int32) (s9 : wg_M) : Option (Int32 × wg_M) := wg_bz v8 (some (v8, s9))
def q_X6_readCondition_15__4 (n : Nat) (s6 : wg_M) (v7 : Int32) : Option (Int32 × wg_M) := if v7 = (60 : Int32) then (f_X6_readCondition_76 (f_X6_readCondition_15  n) 260 v7 s6) else (if v7 = (61 : Int32) then (f_X6_readCondition_76 (f_X6_readCondition_15  n) 260 v7 s6) else (if v7 = (62 : Int32) then (f_X6_readCondition_76 (f_X6_readCondition_15  n) 260 v7 s6) else (wg_bd (f_X6_fail 260 (1 : Int32) s6) q_X6_readCondition_15__5)))
def q_X6_readCondition_15__3 (n : Nat) (v5 : Int32) (s6 : wg_M) : Option (Int32 × wg_M) := if v5 = 0 then (some ((0 : Int32), s6)) else (wg_ga 401 (s6 262) (s6 260 7) (q_X6_readCondition_15__4 n s6))
def q_X6_readCondition_15__2 (n : Nat) (v3 : Int32) (s4 : wg_M) : Option (Int32 × wg_M) := if v3 = 0 then (some ((0 : Int32), s4)) else (wg_bd (f_X6_readSum 260 s4) (q_X6_readCondition_15__3 n))
def q_X6_readCondition_15__1 (v1 : Int32) (s2 : wg_M) : Option (Int32 × wg_M) := wg_bz v1 (some (v1, s2))
theorem e_X6_readCondition_15__1 (v1 : Int32) (s2 : wg_M) : q_X6_readCondition_15__1 v1 s2 = wg_bz v1 (some (v1, s2)) := rfl
theorem e_X6_readCondition_15__2 (n : Nat) (v3 : Int32) (s4 : wg_M) : q_X6_readCondition_15__2 n v3 s4 = if v3 = 0 then (some ((0 : Int32), s4)) else (wg_bd (f_X6_readSum 260 s4) (q_X6_readCondition_15__3 n)) := rfl
theorem e_X6_readCondition_15__3 (n : Nat) (v5 : Int32) (s6 : wg_M) : q_X6_readCondition_15__3 n v5 s6 = if v5 = 0 then (some ((0 : Int32), s6)) else (wg_ga 401 (s6 262) (s6 260 7) (q_X6_readCondition_15__4 n s6)) := rfl
theorem e_X6_readCondition_15__4 (n : Nat) (s6 : wg_M) (v7 : Int32) : q_X6_readCondition_15__4 n s6 v7 = if v7 = (60 : Int32) then (f_X6_readCondition_76 (f_X6_readCondition_15  n) 260 v7 s6) else (if v7 = (61 : Int32) then (f_X6_readCondition_76 (f_X6_readCondition_15  n) 260 v7 s6) else (if v7 = (62 : Int32) then (f_X6_readCondition_76 (f_X6_readCondition_15  n) 260 v7 s6) else (wg_bd (f_X6_fail 260 (1 : Int32) s6) q_X6_readCondition_15__5))) := rfl
theorem e_X6_readCondition_15__5 (v8 : Int32) (s9 : wg_M) : q_X6_readCondition_15__5 v8 s9 = wg_bz v8 (some (v8, s9)) := rfl
theorem e_X6_readCondition_15 (n : Nat) (σ : wg_M) : f_X6_readCondition_15 (n + 1) 260 σ = if (σ 260 6) ≤ (σ 260 7) then (wg_bd (f_X6_fail 260 (1 : Int32) σ) q_X6_readCondition_15__1) else (wg_bd (f_X6_readOpening 260 σ) (q_X6_readCondition_15__2 n)) := by
  rw [f_X6_readCondition_15]
  simp only [sc_n262, sc_r260_3]
  rfl
def q_X6_readCondition__3 (s3 : wg_M) : Option (Int32 × wg_M) := f_X6_readCondition_15  wg_N 260 s3
def q_X6_readCondition__2 (s2 : wg_M) : Option (Int32 × wg_M) := wg_st s2 260 15 (0 : Int32) q_X6_readCondition__3
def q_X6_readCondition__1 (s1 : wg_M) : Option (Int32 × wg_M) := wg_st s1 260 14 (0 : Int32) q_X6_readCondition__2
theorem e_X6_readCondition__1 (s1 : wg_M) : q_X6_readCondition__1 s1 = wg_st s1 260 14 (0 : Int32) q_X6_readCondition__2 := rfl
theorem e_X6_readCondition__2 (s2 : wg_M) : q_X6_readCondition__2 s2 = wg_st s2 260 15 (0 : Int32) q_X6_readCondition__3 := rfl
theorem e_X6_readCondition__3 (s3 : wg_M) : q_X6_readCondition__3 s3 = f_X6_readCondition_15  wg_N 260 s3 := rfl
theorem e_X6_readCondition (σ : wg_M) : f_X6_readCondition 260 σ = wg_st σ 260 13 (0 : Int32) q_X6_readCondition__1 := rfl
def q_X6_readLawLine_136__3 (v3 : Int32) (s4 : wg_M) : Option (Int32 × wg_M) := wg_bz v3 (some (v3, s4))
def q_X6_readLawLine_136__2 (s2 : wg_M) : Option (Int32 × wg_M) := wg_bd (f_X6_expect 260 (59 : Int32) s2) q_X6_readLawLine_136__3
def q_X6_readLawLine_136__1 (s1 : wg_M) : Option (Int32 × wg_M) := wg_st s1 266 6 ((s1 266 6) + (1 : Int32)) q_X6_readLawLine_136__2
theorem e_X6_readLawLine_136__1 (s1 : wg_M) : q_X6_readLawLine_136__1 s1 = wg_st s1 266 6 ((s1 266 6) + (1 : Int32)) q_X6_readLawLine_136__2 := rfl
theorem e_X6_readLawLine_136__2 (s2 : wg_M) : q_X6_readLawLine_136__2 s2 = wg_bd (f_X6_expect 260 (59 : Int32) s2) q_X6_readLawLine_136__3 := rfl
theorem e_X6_readLawLine_136__3 (v3 : Int32) (s4 : wg_M) : q_X6_readLawLine_136__3 v3 s4 = wg_bz v3 (some (v3, s4)) := rfl
theorem e_X6_readLawLine_136 (x2 : Int32) (σ : wg_M) : f_X6_readLawLine_136 260 x2 σ = wg_sa 16 σ 271 x2 (σ 266 2) q_X6_readLawLine_136__1 := by
  unfold f_X6_readLawLine_136
  simp only [sc_n271, sc_r260_10, sc_r266_5]
  rfl
def q_X6_readLawLine_37__9 (v11 : Int32) (s12 : wg_M) : Option (Int32 × wg_M) := wg_bz v11 (some (v11, s12))
def q_X6_readLawLine_37__8 (v1 : Int32) (v9 : Int32) (s10 : wg_M) : Option (Int32 × wg_M) := if v9 = 0 then (some ((0 : Int32), s10)) else (f_X6_readLawLine_136  260 v1 s10)
def q_X6_readLawLine_37__7 (v1 : Int32) (s8 : wg_M) : Option (Int32 × wg_M) := wg_bd (f_X6_readCondition 260 s8) (q_X6_readLawLine_37__8 v1)
def q_X6_readLawLine_37__6 (v1 : Int32) (s6 : wg_M) (v7 : Int32) : Option (Int32 × wg_M) := if v7 = (269 : Int32) then (wg_st s6 260 7 ((s6 260 7) + (1 : Int32)) (q_X6_readLawLine_37__7 v1)) else (f_X6_readLawLine_136  260 v1 s6)
def q_X6_readLawLine_37__5 (v1 : Int32) (s6 : wg_M) : Option (Int32 × wg_M) := wg_ga 401 (s6 262) (s6 260 7) (q_X6_readLawLine_37__6 v1 s6)
def q_X6_readLawLine_37__4 (v1 : Int32) (s5 : wg_M) : Option (Int32 × wg_M) := wg_sa 16 s5 270 v1 (s5 266 2) (q_X6_readLawLine_37__5 v1)
def q_X6_readLawLine_37__3 (x1 : Int32) (v1 : Int32) (v3 : Int32) (s4 : wg_M) : Option (Int32 × wg_M) := if v3 = 0 then (some ((0 : Int32), s4)) else (wg_sa 16 s4 269 v1 x1 (q_X6_readLawLine_37__4 v1))
def q_X6_readLawLine_37__2 (x1 : Int32) (v1 : Int32) (s2 : wg_M) : Option (Int32 × wg_M) := wg_bd (f_X6_readSum 260 s2) (q_X6_readLawLine_37__3 x1 v1)
def q_X6_readLawLine_37__1 (x1 : Int32) (σ : wg_M) (v1 : Int32) : Option (Int32 × wg_M) := if v1 < (16 : Int32) then (wg_st σ 260 7 ((σ 260 7) + (1 : Int32)) (q_X6_readLawLine_37__2 x1 v1)) else (wg_bd (f_X6_fail 260 (3 : Int32) σ) q_X6_readLawLine_37__9)
theorem e_X6_readLawLine_37__1 (x1 : Int32) (σ : wg_M) (v1 : Int32) : q_X6_readLawLine_37__1 x1 σ v1 = if v1 < (16 : Int32) then (wg_st σ 260 7 ((σ 260 7) + (1 : Int32)) (q_X6_readLawLine_37__2 x1 v1)) else (wg_bd (f_X6_fail 260 (3 : Int32) σ) q_X6_readLawLine_37__9) := rfl
theorem e_X6_readLawLine_37__2 (x1 : Int32) (v1 : Int32) (s2 : wg_M) : q_X6_readLawLine_37__2 x1 v1 s2 = wg_bd (f_X6_readSum 260 s2) (q_X6_readLawLine_37__3 x1 v1) := rfl
theorem e_X6_readLawLine_37__3 (x1 : Int32) (v1 : Int32) (v3 : Int32) (s4 : wg_M) : q_X6_readLawLine_37__3 x1 v1 v3 s4 = if v3 = 0 then (some ((0 : Int32), s4)) else (wg_sa 16 s4 269 v1 x1 (q_X6_readLawLine_37__4 v1)) := rfl
theorem e_X6_readLawLine_37__4 (v1 : Int32) (s5 : wg_M) : q_X6_readLawLine_37__4 v1 s5 = wg_sa 16 s5 270 v1 (s5 266 2) (q_X6_readLawLine_37__5 v1) := rfl
theorem e_X6_readLawLine_37__5 (v1 : Int32) (s6 : wg_M) : q_X6_readLawLine_37__5 v1 s6 = wg_ga 401 (s6 262) (s6 260 7) (q_X6_readLawLine_37__6 v1 s6) := rfl
theorem e_X6_readLawLine_37__6 (v1 : Int32) (s6 : wg_M) (v7 : Int32) : q_X6_readLawLine_37__6 v1 s6 v7 = if v7 = (269 : Int32) then (wg_st s6 260 7 ((s6 260 7) + (1 : Int32)) (q_X6_readLawLine_37__7 v1)) else (f_X6_readLawLine_136  260 v1 s6) := rfl
theorem e_X6_readLawLine_37__7 (v1 : Int32) (s8 : wg_M) : q_X6_readLawLine_37__7 v1 s8 = wg_bd (f_X6_readCondition 260 s8) (q_X6_readLawLine_37__8 v1) := rfl
theorem e_X6_readLawLine_37__8 (v1 : Int32) (v9 : Int32) (s10 : wg_M) : q_X6_readLawLine_37__8 v1 v9 s10 = if v9 = 0 then (some ((0 : Int32), s10)) else (f_X6_readLawLine_136  260 v1 s10) := rfl
theorem e_X6_readLawLine_37__9 (v11 : Int32) (s12 : wg_M) : q_X6_readLawLine_37__9 v11 s12 = wg_bz v11 (some (v11, s12)) := rfl
theorem e_X6_readLawLine_37 (x1 : Int32) (σ : wg_M) : f_X6_readLawLine_37 260 x1 σ = wg_let (σ 266 6) (q_X6_readLawLine_37__1 x1 σ) := by
  unfold f_X6_readLawLine_37
  simp only [sc_n262, sc_n269, sc_n270, sc_r260_3, sc_r260_10, sc_r266_3, sc_r266_4]
  rfl
def q_X6_readLawLine__2 (v2 : Int32) (s3 : wg_M) : Option (Int32 × wg_M) := wg_bz v2 (some (v2, s3))
def q_X6_readLawLine__1 (σ : wg_M) (v1 : Int32) : Option (Int32 × wg_M) := if v1 = (266 : Int32) then (f_X6_readLawLine_37  260 v1 σ) else (if v1 = (267 : Int32) then (f_X6_readLawLine_37  260 v1 σ) else (if v1 = (268 : Int32) then (f_X6_readLawLine_37  260 v1 σ) else (wg_bd (f_X6_fail 260 (1 : Int32) σ) q_X6_readLawLine__2)))
theorem e_X6_readLawLine__1 (σ : wg_M) (v1 : Int32) : q_X6_readLawLine__1 σ v1 = if v1 = (266 : Int32) then (f_X6_readLawLine_37  260 v1 σ) else (if v1 = (267 : Int32) then (f_X6_readLawLine_37  260 v1 σ) else (if v1 = (268 : Int32) then (f_X6_readLawLine_37  260 v1 σ) else (wg_bd (f_X6_fail 260 (1 : Int32) σ) q_X6_readLawLine__2))) := rfl
theorem e_X6_readLawLine__2 (v2 : Int32) (s3 : wg_M) : q_X6_readLawLine__2 v2 s3 = wg_bz v2 (some (v2, s3)) := rfl
theorem e_X6_readLawLine (σ : wg_M) : f_X6_readLawLine 260 σ = wg_ga 401 (σ 262) (σ 260 7) (q_X6_readLawLine__1 σ) := by
  unfold f_X6_readLawLine
  simp only [sc_n262, sc_r260_3]
  rfl
def q_X6_readLaw_43__1 (_u1 : Int32) (s1 : wg_M) : Option (Int32 × wg_M) := some ((1 : Int32), s1)
theorem e_X6_readLaw_43__1 (_u1 : Int32) (s1 : wg_M) : q_X6_readLaw_43__1 _u1 s1 = some ((1 : Int32), s1) := rfl
theorem e_X6_readLaw_43 (σ : wg_M) : f_X6_readLaw_43 260 σ = wg_bd (f_X3_copyFrom 26 266 σ) q_X6_readLaw_43__1 := by
  unfold f_X6_readLaw_43
  simp only [sc_r0_2, sc_r260_0, sc_r260_10]
  rfl
def q_X6_readLaw_9__3 (n : Nat) (s3 : wg_M) (v4 : Int32) : Option (Int32 × wg_M) := f_X6_readLaw_9  n 260 v4 s3
def q_X6_readLaw_9__2 (n : Nat) (x1 : Int32) (v2 : Int32) (s3 : wg_M) : Option (Int32 × wg_M) := if v2 = 0 then (some ((0 : Int32), s3)) else (wg_let (x1 + (1 : Int32)) (q_X6_readLaw_9__3 n s3))
def q_X6_readLaw_9__1 (n : Nat) (x1 : Int32) (σ : wg_M) (v1 : Int32) : Option (Int32 × wg_M) := if v1 = (1 : Int32) then (f_X6_readLaw_43  260 σ) else (wg_bd (f_X6_readLawLine 260 σ) (q_X6_readLaw_9__2 n x1))
theorem e_X6_readLaw_9__1 (n : Nat) (x1 : Int32) (σ : wg_M) (v1 : Int32) : q_X6_readLaw_9__1 n x1 σ v1 = if v1 = (1 : Int32) then (f_X6_readLaw_43  260 σ) else (wg_bd (f_X6_readLawLine 260 σ) (q_X6_readLaw_9__2 n x1)) := rfl
theorem e_X6_readLaw_9__2 (n : Nat) (x1 : Int32) (v2 : Int32) (s3 : wg_M) : q_X6_readLaw_9__2 n x1 v2 s3 = if v2 = 0 then (some ((0 : Int32), s3)) else (wg_let (x1 + (1 : Int32)) (q_X6_readLaw_9__3 n s3)) := rfl
theorem e_X6_readLaw_9__3 (n : Nat) (s3 : wg_M) (v4 : Int32) : q_X6_readLaw_9__3 n s3 v4 = f_X6_readLaw_9  n 260 v4 s3 := rfl
theorem e_X6_readLaw_9 (n : Nat) (x1 : Int32) (σ : wg_M) : f_X6_readLaw_9 (n + 1) 260 x1 σ = if (16 : Int32) < x1 then (f_X6_readLaw_43  260 σ) else (wg_ga 401 (σ 262) (σ 260 7) (q_X6_readLaw_9__1 n x1 σ)) := by
  rw [f_X6_readLaw_9]
  simp only [sc_n262, sc_r260_3]
  rfl

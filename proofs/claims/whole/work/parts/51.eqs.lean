theorem e_X8_oneHas_28 (x1 : Int32) (t0 : Int32) (σ : wg_M) : f_X8_oneHas_28 49 x1 t0 σ = if t0 = 0 then (wg_bd (f_X8_worthOf 49 (0 : Int32) (0 : Int32) x1 σ) (fun v1 s2 => some (v1, s2))) else (wg_bd (f_X8_worthOf 49 (0 : Int32) x1 (10 : Int32) σ) (fun v3 s4 => some (v3, s4))) := rfl
theorem e_X8_oneHas (σ : wg_M) : f_X8_oneHas 49 σ = wg_bd (f_X8_cutPlace 49 σ) (fun v1 s2 => wg_bd (f_X8_worthOf 49 (1 : Int32) (0 : Int32) v1 s2) (fun v3 s4 => wg_bd (f_X8_worthOf 49 (1 : Int32) v1 (10 : Int32) s4) (fun v5 s6 => if v3 < v5 then (f_X8_oneHas_28  49 v1 (0 : Int32) s6) else (f_X8_oneHas_28  49 v1 (1 : Int32) s6)))) := rfl
theorem e_X8_soonestDue_42 (k4 : Nat → Int32 → Int32 → Int32 → wg_M → Option (Int32 × wg_M)) (x1 : Int32) (x2 : Int32) (x3 : Int32) (σ : wg_M) : f_X8_soonestDue_42 k4 49 x1 x2 x3 σ = wg_let (x3 + (1 : Int32)) (fun v1 => k4 49 x1 x2 v1 σ) := rfl
theorem e_X8_soonestDue_40 (k4 : Nat → Int32 → Int32 → Int32 → wg_M → Option (Int32 × wg_M)) (x1 : Int32) (x3 : Int32) (σ : wg_M) : f_X8_soonestDue_40 k4 49 x1 x3 σ = f_X8_soonestDue_42 k4 49 x1 x3 x3 σ := rfl
theorem e_X8_soonestDue_4 (n : Nat) (x1 : Int32) (x2 : Int32) (x3 : Int32) (σ : wg_M) : f_X8_soonestDue_4 (n + 1) 49 x1 x2 x3 σ = if (σ 49 10) ≤ x3 then (some (x2, σ)) else (if ((x1 >>> (x3 &&& 31)) &&& (1 : Int32)) = 0 then (if x2 = (-1 : Int32) then (f_X8_soonestDue_40 (f_X8_soonestDue_4  n) 49 x1 x3 σ) else (wg_ga 7 (σ 57) x3 (fun v1 => wg_ga 7 (σ 57) x2 (fun v2 => if v2 ≤ v1 then (f_X8_soonestDue_42 (f_X8_soonestDue_4  n) 49 x1 x2 x3 σ) else (f_X8_soonestDue_40 (f_X8_soonestDue_4  n) 49 x1 x3 σ))))) else (f_X8_soonestDue_42 (f_X8_soonestDue_4  n) 49 x1 x2 x3 σ)) := by
  rw [f_X8_soonestDue_4]
  simp only [sc_n57, sc_r49_9]
theorem e_X8_soonestDue (x1 : Int32) (σ : wg_M) : f_X8_soonestDue 49 x1 σ = f_X8_soonestDue_4  wg_N 49 x1 (-1 : Int32) (0 : Int32) σ := rfl
theorem e_X8_lateness_11 (n : Nat) (x3 : Int32) (x4 : Int32) (x5 : Int32) (x6 : Int32) (σ : wg_M) : f_X8_lateness_11 (n + 1) 49 x3 x4 x5 x6 σ = if (σ 49 10) ≤ x6 then (some (x3, σ)) else (wg_bd (f_X8_soonestDue 49 x4 σ) (fun v1 s2 => if v1 = (-1 : Int32) then (some (x3, s2)) else (wg_let (x4 ||| ((1 : Int32) <<< (v1 &&& 31))) (fun v3 => wg_ga 7 (s2 56) v1 (fun v4 => wg_let (x5 + v4) (fun v5 => wg_ga 7 (s2 57) v1 (fun v6 => wg_bd (f_J9_max_7cf53 x3 (v5 - v6) s2) (fun v7 s8 => wg_let (x6 + (1 : Int32)) (fun v9 => f_X8_lateness_11  n 49 v7 v3 v5 v9 s8))))))))) := by
  rw [f_X8_lateness_11]
  simp only [sc_n56, sc_n57, sc_r49_8, sc_r49_9]
theorem e_X8_lateness (x1 : Int32) (x2 : Int32) (σ : wg_M) : f_X8_lateness 49 x1 x2 σ = f_X8_lateness_11  wg_N 49 (0 : Int32) x1 x2 (0 : Int32) σ := rfl
theorem e_X8_leastThatKeeps_67 (k3 : Nat → Int32 → Int32 → Int32 → Int32 → wg_M → Option (Int32 × wg_M)) (x1 : Int32) (x2 : Int32) (x3 : Int32) (x4 : Int32) (t0 : Int32) (σ : wg_M) : f_X8_leastThatKeeps_67 k3 49 x1 x2 x3 x4 t0 σ = if t0 = 0 then (wg_let (x4 + (1 : Int32)) (fun v1 => k3 49 x1 x2 x3 v1 σ)) else (some (x4, σ)) := rfl
theorem e_X8_leastThatKeeps_66 (k3 : Nat → Int32 → Int32 → Int32 → Int32 → wg_M → Option (Int32 × wg_M)) (x1 : Int32) (x2 : Int32) (x3 : Int32) (x4 : Int32) (σ : wg_M) : f_X8_leastThatKeeps_66 k3 49 x1 x2 x3 x4 σ = f_X8_leastThatKeeps_67 k3 49 x1 x2 x3 x4 (0 : Int32) σ := rfl
theorem e_X8_leastThatKeeps_3 (n : Nat) (x1 : Int32) (x2 : Int32) (x3 : Int32) (x4 : Int32) (σ : wg_M) : f_X8_leastThatKeeps_3 (n + 1) 49 x1 x2 x3 x4 σ = if (σ 49 10) ≤ x4 then (some ((-1 : Int32), σ)) else (wg_ga 7 (σ 56) x4 (fun v1 => wg_let (x3 + v1) (fun v2 => if ((x2 >>> (x4 &&& 31)) &&& (1 : Int32)) = 0 then (wg_ga 7 (σ 57) x4 (fun v3 => if x1 < (v2 - v3) then (f_X8_leastThatKeeps_66 (f_X8_leastThatKeeps_3  n) 49 x1 x2 x3 x4 σ) else (wg_bd (f_X8_lateness 49 (x2 ||| ((1 : Int32) <<< (x4 &&& 31))) v2 σ) (fun v4 s5 => if x1 < v4 then (f_X8_leastThatKeeps_66 (f_X8_leastThatKeeps_3  n) 49 x1 x2 x3 x4 s5) else (f_X8_leastThatKeeps_67 (f_X8_leastThatKeeps_3  n) 49 x1 x2 x3 x4 (1 : Int32) s5))))) else (f_X8_leastThatKeeps_66 (f_X8_leastThatKeeps_3  n) 49 x1 x2 x3 x4 σ)))) := by
  rw [f_X8_leastThatKeeps_3]
  simp only [sc_n56, sc_n57, sc_r49_8, sc_r49_9]
theorem e_X8_leastThatKeeps (x1 : Int32) (x2 : Int32) (x3 : Int32) (σ : wg_M) : f_X8_leastThatKeeps 49 x1 x2 x3 σ = f_X8_leastThatKeeps_3  wg_N 49 x1 x2 x3 (0 : Int32) σ := rfl
theorem e_X8_heardAt_18 (n : Nat) (x1 : Int32) (x2 : Int32) (x3 : Int32) (x4 : Int32) (x5 : Int32) (x6 : Int32) (σ : wg_M) : f_X8_heardAt_18 (n + 1) 49 x1 x2 x3 x4 x5 x6 σ = if x1 < x6 then (some (x5, σ)) else (if (σ 49 10) ≤ x6 then (some (x5, σ)) else (wg_bd (f_X8_leastThatKeeps 49 x2 x3 x4 σ) (fun v1 s2 => if v1 = (-1 : Int32) then (some ((-1 : Int32), s2)) else (wg_let (x3 ||| ((1 : Int32) <<< (v1 &&& 31))) (fun v3 => wg_ga 7 (s2 56) v1 (fun v4 => wg_let (x4 + v4) (fun v5 => wg_let (x6 + (1 : Int32)) (fun v6 => f_X8_heardAt_18  n 49 x1 x2 v3 v5 v1 v6 s2)))))))) := by
  rw [f_X8_heardAt_18]
  simp only [sc_n56, sc_r49_8]
theorem e_X8_heardAt (x1 : Int32) (σ : wg_M) : f_X8_heardAt 49 x1 σ = wg_bd (f_X8_lateness 49 (0 : Int32) (0 : Int32) σ) (fun v1 s2 => f_X8_heardAt_18  wg_N 49 x1 v1 (0 : Int32) (0 : Int32) (-1 : Int32) (0 : Int32) s2) := rfl
theorem e_X9_hasRule (x1 : Int32) (x2 : Int32) (σ : wg_M) : f_X9_hasRule 2 x1 x2 σ = wg_bd (f_X9_has 2 x1 σ) (fun v1 s2 => if v1 = 0 then (some ((0 : Int32), s2)) else (if x2 < 0 then (some ((0 : Int32), s2)) else (wg_ga 8 (s2 7) x1 (fun v3 => if v3 ≤ x2 then (some ((0 : Int32), s2)) else (some ((1 : Int32), s2)))))) := by
  unfold f_X9_hasRule
  simp only [sc_n7, sc_r2_4]
theorem e_X9_add (x1 : Int32) (x2 : Int32) (σ : wg_M) : f_X9_add 2 x1 x2 σ = if (σ 2 8) < (8 : Int32) then (wg_sa 8 σ 3 (σ 2 8) x1 (fun s1 => wg_sa 8 s1 4 (s1 2 8) x2 (fun s2 => wg_sa 8 s2 5 (s2 2 8) (0 : Int32) (fun s3 => wg_sa 8 s3 6 (s3 2 8) (0 : Int32) (fun s4 => wg_sa 8 s4 7 (s4 2 8) (0 : Int32) (fun s5 => wg_st s5 2 8 ((s5 2 8) + (1 : Int32)) (fun s6 => some ((s6 2 8) - (1 : Int32), s6)))))))) else (some ((-1 : Int32), σ)) := by
  unfold f_X9_add
  simp only [sc_n3, sc_n4, sc_n5, sc_n6, sc_n7, sc_r2_0, sc_r2_1, sc_r2_2, sc_r2_3, sc_r2_4]
theorem e_X9_toComb_78 (k4 : Nat → Int32 → Int32 → Int32 → wg_M → Option (Int32 × wg_M)) (x1 : Int32) (x3 : Int32) (t0 : Int32) (t1 : Int32) (σ : wg_M) : f_X9_toComb_78 k4 2 x1 x3 t0 t1 σ = wg_let (t1 ||| t0) (fun v1 => wg_let (x3 + (1 : Int32)) (fun v2 => k4 2 x1 v1 v2 σ)) := rfl
theorem e_X9_toComb_63 (k4 : Nat → Int32 → Int32 → Int32 → wg_M → Option (Int32 × wg_M)) (x1 : Int32) (x2 : Int32) (x3 : Int32) (x4 : Int32) (x5 : Int32) (t0 : Int32) (σ : wg_M) : f_X9_toComb_63 k4 2 x1 x2 x3 x4 x5 t0 σ = if t0 = 0 then (f_X9_toComb_78 k4 2 x1 x3 x5 x2 σ) else (f_X9_toComb_78 k4 2 x1 x3 x4 x2 σ) := rfl
theorem e_X9_toComb_58 (k4 : Nat → Int32 → Int32 → Int32 → wg_M → Option (Int32 × wg_M)) (x1 : Int32) (x2 : Int32) (x3 : Int32) (x4 : Int32) (x5 : Int32) (σ : wg_M) : f_X9_toComb_58 k4 2 x1 x2 x3 x4 x5 σ = f_X9_toComb_63 k4 2 x1 x2 x3 x4 x5 (1 : Int32) σ := rfl
theorem e_X9_toComb_62 (k4 : Nat → Int32 → Int32 → Int32 → wg_M → Option (Int32 × wg_M)) (x1 : Int32) (x2 : Int32) (x3 : Int32) (x4 : Int32) (x5 : Int32) (σ : wg_M) : f_X9_toComb_62 k4 2 x1 x2 x3 x4 x5 σ = f_X9_toComb_63 k4 2 x1 x2 x3 x4 x5 (0 : Int32) σ := rfl
theorem e_X9_toComb_4 (n : Nat) (x1 : Int32) (x2 : Int32) (x3 : Int32) (σ : wg_M) : f_X9_toComb_4 (n + 1) 2 x1 x2 x3 σ = if (8 : Int32) ≤ x3 then (some (x2, σ)) else (wg_bd (f_X9_rulesFor 2 x1 x3 (0 : Int32) σ) (fun v1 s2 => wg_bd (f_X9_rulesFor 2 x1 x3 (1 : Int32) s2) (fun v3 s4 => wg_bd (f_J6_bitCount_0f7a4 v1 s4) (fun v5 s6 => wg_bd (f_J6_bitCount_0f7a4 v3 s6) (fun v7 s8 => wg_let (v5 - v7) (fun v9 => if v9 < 0 then (f_X9_toComb_58 (f_X9_toComb_4  n) 2 x1 x2 x3 v1 v3 s8) else (if v9 = 0 then (if v3 ≤ v1 then (f_X9_toComb_62 (f_X9_toComb_4  n) 2 x1 x2 x3 v1 v3 s8) else (f_X9_toComb_58 (f_X9_toComb_4  n) 2 x1 x2 x3 v1 v3 s8)) else (f_X9_toComb_62 (f_X9_toComb_4  n) 2 x1 x2 x3 v1 v3 s8)))))))) := by
  rw [f_X9_toComb_4]
theorem e_X9_toComb (x1 : Int32) (σ : wg_M) : f_X9_toComb 2 x1 σ = f_X9_toComb_4  wg_N 2 x1 (0 : Int32) (0 : Int32) σ := rfl
theorem e_X9_rulingsOn_47 (k5 : Nat → Int32 → Int32 → Int32 → Int32 → wg_M → Option (Int32 × wg_M)) (x1 : Int32) (x2 : Int32) (x3 : Int32) (x4 : Int32) (σ : wg_M) : f_X9_rulingsOn_47 k5 2 x1 x2 x3 x4 σ = wg_let (x4 + (1 : Int32)) (fun v1 => k5 2 x1 x2 x3 v1 σ) := rfl
theorem e_X9_rulingsOn_5 (n : Nat) (x1 : Int32) (x2 : Int32) (x3 : Int32) (x4 : Int32) (σ : wg_M) : f_X9_rulingsOn_5 (n + 1) 2 x1 x2 x3 x4 σ = wg_ga 8 (σ 7) x1 (fun v1 => if v1 ≤ x4 then (some (x3, σ)) else (wg_ga 64 (σ 8) ((x1 * (8 : Int32)) + x4) (fun v2 => if v2 = x2 then (wg_ga 64 (σ 9) ((x1 * (8 : Int32)) + x4) (fun v3 => wg_let (x3 + v3) (fun v4 => f_X9_rulingsOn_47 (f_X9_rulingsOn_5  n) 2 x1 x2 v4 x4 σ))) else (f_X9_rulingsOn_47 (f_X9_rulingsOn_5  n) 2 x1 x2 x3 x4 σ)))) := by
  rw [f_X9_rulingsOn_5]
  simp only [sc_n7, sc_n8, sc_n9, sc_r2_4, sc_r2_5, sc_r2_6]
theorem e_X9_rulingsOn (x1 : Int32) (x2 : Int32) (σ : wg_M) : f_X9_rulingsOn 2 x1 x2 σ = f_X9_rulingsOn_5  wg_N 2 x1 x2 (0 : Int32) (0 : Int32) σ := rfl
theorem e_X9_apart_5 (n : Nat) (x1 : Int32) (x2 : Int32) (x3 : Int32) (x4 : Int32) (σ : wg_M) : f_X9_apart_5 (n + 1) 2 x1 x2 x3 x4 σ = if (8 : Int32) ≤ x4 then (some (x3, σ)) else (wg_bd (f_X9_rulingsOn 2 x1 x4 σ) (fun v1 s2 => wg_bd (f_X9_rulingsOn 2 x2 x4 s2) (fun v3 s4 => wg_bd (f_J9_abs_0f7a4 (v1 - v3) s4) (fun v5 s6 => wg_let (x3 + v5) (fun v7 => wg_let (x4 + (1 : Int32)) (fun v8 => f_X9_apart_5  n 2 x1 x2 v7 v8 s6)))))) := by
  rw [f_X9_apart_5]
theorem e_X9_apart (x1 : Int32) (x2 : Int32) (σ : wg_M) : f_X9_apart 2 x1 x2 σ = f_X9_apart_5  wg_N 2 x1 x2 (0 : Int32) (0 : Int32) σ := rfl
theorem e_X9_nearest_48 (k7 : Nat → Int32 → Int32 → Int32 → Int32 → wg_M → Option (Int32 × wg_M)) (x1 : Int32) (x2 : Int32) (x3 : Int32) (x4 : Int32) (σ : wg_M) : f_X9_nearest_48 k7 2 x1 x2 x3 x4 σ = wg_let (x4 + (1 : Int32)) (fun v1 => k7 2 x1 x2 x3 v1 σ) := rfl
theorem e_X9_nearest_42 (k7 : Nat → Int32 → Int32 → Int32 → Int32 → wg_M → Option (Int32 × wg_M)) (x1 : Int32) (x4 : Int32) (x5 : Int32) (σ : wg_M) : f_X9_nearest_42 k7 2 x1 x4 x5 σ = f_X9_nearest_48 k7 2 x1 x4 x5 x4 σ := rfl
theorem e_X9_nearest_7 (n : Nat) (x1 : Int32) (x2 : Int32) (x3 : Int32) (x4 : Int32) (σ : wg_M) : f_X9_nearest_7 (n + 1) 2 x1 x2 x3 x4 σ = if (σ 2 8) ≤ x4 then (some (x2, σ)) else (wg_bd (f_X9_apart 2 x1 x4 σ) (fun v1 s2 => if x4 = x1 then (f_X9_nearest_48 (f_X9_nearest_7  n) 2 x1 x2 x3 x4 s2) else (if x2 = (-1 : Int32) then (f_X9_nearest_42 (f_X9_nearest_7  n) 2 x1 x4 v1 s2) else (if x3 ≤ v1 then (f_X9_nearest_48 (f_X9_nearest_7  n) 2 x1 x2 x3 x4 s2) else (f_X9_nearest_42 (f_X9_nearest_7  n) 2 x1 x4 v1 s2))))) := by
  rw [f_X9_nearest_7]
theorem e_X9_nearest (x1 : Int32) (σ : wg_M) : f_X9_nearest 2 x1 σ = f_X9_nearest_7  wg_N 2 x1 (-1 : Int32) (0 : Int32) (0 : Int32) σ := rfl
theorem e_X9_worthOf_46 (k4 : Nat → Int32 → Int32 → Int32 → wg_M → Option (Int32 × wg_M)) (x1 : Int32) (x2 : Int32) (x3 : Int32) (σ : wg_M) : f_X9_worthOf_46 k4 2 x1 x2 x3 σ = wg_let (x3 + (1 : Int32)) (fun v1 => k4 2 x1 x2 v1 σ) := rfl
theorem e_X9_worthOf_43 (k4 : Nat → Int32 → Int32 → Int32 → wg_M → Option (Int32 × wg_M)) (x1 : Int32) (x3 : Int32) (t0 : Int32) (t1 : Int32) (t2 : Int32) (σ : wg_M) : f_X9_worthOf_43 k4 2 x1 x3 t0 t1 t2 σ = wg_let (t2 + (t1 + t0)) (fun v1 => f_X9_worthOf_46 k4 2 x1 v1 x3 σ) := rfl
theorem e_X9_worthOf_4 (n : Nat) (x1 : Int32) (x2 : Int32) (x3 : Int32) (σ : wg_M) : f_X9_worthOf_4 (n + 1) 2 x1 x2 x3 σ = if (σ 2 8) ≤ x3 then (some (x2, σ)) else (if ((x1 >>> (x3 &&& 31)) &&& (1 : Int32)) = (1 : Int32) then (wg_ga 8 (σ 7) x3 (fun v1 => wg_ga 8 (σ 3) x3 (fun v2 => if v2 = (1 : Int32) then (f_X9_worthOf_43 (f_X9_worthOf_4  n) 2 x1 x3 (3 : Int32) v1 x2 σ) else (f_X9_worthOf_43 (f_X9_worthOf_4  n) 2 x1 x3 (0 : Int32) v1 x2 σ)))) else (f_X9_worthOf_46 (f_X9_worthOf_4  n) 2 x1 x2 x3 σ)) := by
  rw [f_X9_worthOf_4]
  simp only [sc_n3, sc_n7, sc_r2_0, sc_r2_4]
theorem e_X9_worthOf (x1 : Int32) (σ : wg_M) : f_X9_worthOf 2 x1 σ = f_X9_worthOf_4  wg_N 2 x1 (0 : Int32) (0 : Int32) σ := rfl
theorem e_X9_toSave_48 (k7 : Nat → Int32 → Int32 → Int32 → Int32 → wg_M → Option (Int32 × wg_M)) (x1 : Int32) (x2 : Int32) (x3 : Int32) (x4 : Int32) (σ : wg_M) : f_X9_toSave_48 k7 2 x1 x2 x3 x4 σ = wg_let (x4 + (1 : Int32)) (fun v1 => k7 2 x1 x2 x3 v1 σ) := rfl
theorem e_X9_toSave_7 (n : Nat) (x1 : Int32) (x2 : Int32) (x3 : Int32) (x4 : Int32) (σ : wg_M) : f_X9_toSave_7 (n + 1) 2 x1 x2 x3 x4 σ = if ((1 : Int32) <<< ((σ 2 8) &&& 31)) ≤ x4 then (some (x2, σ)) else (wg_bd (f_X9_hairOf 2 x4 σ) (fun v1 s2 => if x1 < v1 then (f_X9_toSave_48 (f_X9_toSave_7  n) 2 x1 x2 x3 x4 s2) else (wg_bd (f_X9_worthOf 2 x4 s2) (fun v3 s4 => if v3 ≤ x3 then (f_X9_toSave_48 (f_X9_toSave_7  n) 2 x1 x2 x3 x4 s4) else (wg_bd (f_X9_worthOf 2 x4 s4) (fun v5 s6 => f_X9_toSave_48 (f_X9_toSave_7  n) 2 x1 x4 v5 x4 s6)))))) := by
  rw [f_X9_toSave_7]
theorem e_X9_toSave (x1 : Int32) (σ : wg_M) : f_X9_toSave 2 x1 σ = f_X9_toSave_7  wg_N 2 x1 (0 : Int32) (0 : Int32) (1 : Int32) σ := rfl
theorem e_X9_wellPulled_29 (n : Nat) (x1 : Int32) (x2 : Int32) (x3 : Int32) (σ : wg_M) : f_X9_wellPulled_29 (n + 1) 2 x1 x2 x3 σ = if (σ 2 8) ≤ x3 then (some ((-1 : Int32), σ)) else (wg_ga 8 (σ 7) x3 (fun v1 => wg_let (v1 ^^^ x2) (fun v2 => wg_ga 8 (σ 7) x3 (fun v3 => if v3 ≤ v2 then (wg_let (x3 + (1 : Int32)) (fun v4 => f_X9_wellPulled_29  n 2 x1 x2 v4 σ)) else (if x1 = 0 then (wg_ga 8 (σ 7) x3 (fun v5 => some (v5 - v2, σ))) else (some (x3, σ))))))) := by
  rw [f_X9_wellPulled_29]
  simp only [sc_n7, sc_r2_4]
theorem e_X9_wellPulled_4 (n : Nat) (x1 : Int32) (x2 : Int32) (x3 : Int32) (σ : wg_M) : f_X9_wellPulled_4 (n + 1) 2 x1 x2 x3 σ = if (σ 2 8) ≤ x3 then (f_X9_wellPulled_29  wg_N 2 x1 x2 (0 : Int32) σ) else (wg_ga 8 (σ 7) x3 (fun v1 => wg_let (x2 ^^^ v1) (fun v2 => wg_let (x3 + (1 : Int32)) (fun v3 => f_X9_wellPulled_4  n 2 x1 v2 v3 σ)))) := by
  rw [f_X9_wellPulled_4]
  simp only [sc_n7, sc_r2_4]
theorem e_X9_wellPulled (x1 : Int32) (σ : wg_M) : f_X9_wellPulled 2 x1 σ = f_X9_wellPulled_4  wg_N 2 x1 (0 : Int32) (0 : Int32) σ := rfl
theorem e_X11_state (x1 : Int32) (σ : wg_M) : f_X11_state 281 x1 σ = wg_let (σ 1 8) (fun v1 => wg_bd (f_X5_forget 258 σ) (fun _ s2 => wg_st s2 1 8 x1 (fun s3 => some (v1, s3)))) := by
  unfold f_X11_state
  simp only [sc_r0_0, sc_r281_0, sc_r281_2]
theorem e_X11_wig (x1 : Int32) (x2 : Int32) (σ : wg_M) : f_X11_wig 281 x1 x2 σ = if (8 : Int32) ≤ (σ 2 8) then (some ((-1 : Int32), σ)) else (wg_bd (f_X11_within x1 (0 : Int32) (2 : Int32) σ) (fun v1 s2 => if v1 = 0 then (some ((-1 : Int32), s2)) else (wg_bd (f_X11_within x2 (0 : Int32) (99 : Int32) s2) (fun v3 s4 => if v3 = 0 then (some ((-1 : Int32), s4)) else (wg_bd (f_X5_forget 258 s4) (fun _ s5 => wg_bd (f_X9_add 2 x1 x2 s5) (fun v6 s7 => some (v6, s7)))))))) := by
  unfold f_X11_wig
  simp only [sc_r0_0, sc_r1_0, sc_r281_0, sc_r281_2]
theorem e_X11_judge (x1 : Int32) (x2 : Int32) (σ : wg_M) : f_X11_judge 281 x1 x2 σ = if (10 : Int32) ≤ (σ 11 5) then (some ((-1 : Int32), σ)) else (wg_bd (f_X11_within x1 (0 : Int32) (120 : Int32) σ) (fun v1 s2 => if v1 = 0 then (some ((-1 : Int32), s2)) else (wg_bd (f_X11_within x2 (-9 : Int32) (9 : Int32) s2) (fun v3 s4 => if v3 = 0 then (some ((-1 : Int32), s4)) else (wg_bd (f_X5_forget 258 s4) (fun _ s5 => wg_bd (f_X2_add 11 x1 x2 s5) (fun v6 s7 => some (v6, s7)))))))) := by
  unfold f_X11_judge
  simp only [sc_r0_0, sc_r1_1, sc_r281_0, sc_r281_2]
theorem e_X11_trial (x1 : Int32) (x2 : Int32) (σ : wg_M) : f_X11_trial 281 x1 x2 σ = if (14 : Int32) ≤ (σ 1 6) then (some ((-1 : Int32), σ)) else (wg_bd (f_X11_within x1 (0 : Int32) (7 : Int32) σ) (fun v1 s2 => if v1 = 0 then (some ((-1 : Int32), s2)) else (wg_bd (f_X11_within x2 (-99 : Int32) (99 : Int32) s2) (fun v3 s4 => if v3 = 0 then (some ((-1 : Int32), s4)) else (wg_bd (f_X5_forget 258 s4) (fun _ s5 => wg_bd (f_X0_addCase 1 x1 x2 s5) (fun v6 s7 => some (v6, s7)))))))) := by
  unfold f_X11_trial
  simp only [sc_r0_0, sc_r281_0, sc_r281_2]
theorem e_X11_rule (x1 : Int32) (x2 : Int32) (x3 : Int32) (x4 : Int32) (σ : wg_M) : f_X11_rule 281 x1 x2 x3 x4 σ = wg_bd (f_X9_has 2 x1 σ) (fun v1 s2 => if v1 = 0 then (some ((-1 : Int32), s2)) else (wg_ga 8 (s2 7) x1 (fun v3 => if (8 : Int32) ≤ v3 then (some ((-1 : Int32), s2)) else (wg_bd (f_X11_within x2 (0 : Int32) (7 : Int32) s2) (fun v4 s5 => if v4 = 0 then (some ((-1 : Int32), s5)) else (wg_bd (f_X11_within x3 (-9 : Int32) (9 : Int32) s5) (fun v6 s7 => if v6 = 0 then (some ((-1 : Int32), s7)) else (wg_bd (f_X11_within x4 (1 : Int32) (99 : Int32) s7) (fun v8 s9 => if v8 = 0 then (some ((-1 : Int32), s9)) else (wg_bd (f_X5_forget 258 s9) (fun _ s10 => wg_bd (f_X9_addRule 2 x1 x2 x3 x4 s10) (fun _ s11 => wg_ga 8 (s11 7) x1 (fun v12 => some (v12, s11)))))))))))))) := by
  unfold f_X11_rule
  simp only [sc_n7, sc_r0_0, sc_r1_0, sc_r2_4, sc_r281_0, sc_r281_2]
theorem e_X11_set (x1 : Int32) (x2 : Int32) (x3 : Int32) (σ : wg_M) : f_X11_set 281 x1 x2 x3 σ = wg_sw x1 (0) [wg_bd (f_X2_has 11 x2 σ) (fun v1 s2 => if v1 = 0 then (some ((0 : Int32), s2)) else (wg_bd (f_X11_tellAnew 281 12 x2 x3 (0 : Int32) (120 : Int32) s2) (fun v3 s4 => if v3 = 0 then (some ((0 : Int32), s4)) else (some ((1 : Int32), s4))))), wg_bd (f_X2_has 11 x2 σ) (fun v5 s6 => if v5 = 0 then (some ((0 : Int32), s6)) else (wg_bd (f_X11_tellAnew 281 13 x2 x3 (-9 : Int32) (9 : Int32) s6) (fun v7 s8 => if v7 = 0 then (some ((0 : Int32), s8)) else (some ((1 : Int32), s8))))), wg_bd (f_X9_has 2 x2 σ) (fun v9 s10 => if v9 = 0 then (some ((0 : Int32), s10)) else (wg_bd (f_X11_tellAnew 281 4 x2 x3 (0 : Int32) (99 : Int32) s10) (fun v11 s12 => if v11 = 0 then (some ((0 : Int32), s12)) else (some ((1 : Int32), s12))))), wg_bd (f_X0_hasCase 1 x2 σ) (fun v13 s14 => if v13 = 0 then (some ((0 : Int32), s14)) else (wg_bd (f_X11_tellAnew 281 18 x2 x3 (-99 : Int32) (99 : Int32) s14) (fun v15 s16 => if v15 = 0 then (some ((0 : Int32), s16)) else (some ((1 : Int32), s16)))))] (some ((0 : Int32), σ)) := by
  unfold f_X11_set
  simp only [sc_r0_0, sc_r1_0, sc_r1_1, sc_r1_3, sc_r2_1, sc_r11_0, sc_r11_1, sc_r281_0]
theorem e_X11_tries (x1 : Int32) (x2 : Int32) (σ : wg_M) : f_X11_tries 281 x1 x2 σ = wg_bd (f_X1_canTry 279 x1 x2 σ) (fun v1 s2 => if v1 = 0 then (some ((-10000 : Int32), s2)) else (wg_bd (f_X5_remember 258 1 s2) (fun _ s3 => wg_bd (f_X1_tryCase 279 x1 x2 s3) (fun _ s4 => wg_ga 14 (s4 19) x1 (fun v5 => some (v5, s4)))))) := by
  unfold f_X11_tries
  simp only [sc_n19, sc_r0_0, sc_r1_4, sc_r281_0, sc_r281_2, sc_r281_4]
theorem e_X11_act (x1 : Int32) (x2 : Int32) (x3 : Int32) (σ : wg_M) : f_X11_act 281 x1 x2 x3 σ = wg_bd (f_X1_canDo 279 x1 x2 x3 σ) (fun v1 s2 => if v1 = 0 then (some ((0 : Int32), s2)) else (wg_bd (f_X5_remember 258 1 s2) (fun _ s3 => wg_bd (f_X1_doTo 279 x1 x2 x3 s3) (fun _ s4 => some ((1 : Int32), s4))))) := by
  unfold f_X11_act
  simp only [sc_r0_0, sc_r281_0, sc_r281_2, sc_r281_4]
theorem e_X11_years_61 (k34 : Nat → Int32 → Int32 → Int32 → wg_M → Option (Int32 × wg_M)) (x1 : Int32) (x2 : Int32) (x3 : Int32) (σ : wg_M) : f_X11_years_61 k34 281 x1 x2 x3 σ = wg_bd (f_X1_passYear 279 σ) (fun v1 s2 => wg_let (x2 + v1) (fun v3 => wg_let (x3 + (1 : Int32)) (fun v4 => k34 281 x1 v3 v4 s2))) := by
  unfold f_X11_years_61
  simp only [sc_r281_4]
theorem e_X11_years_34 (n : Nat) (x1 : Int32) (x2 : Int32) (x3 : Int32) (σ : wg_M) : f_X11_years_34 (n + 1) 281 x1 x2 x3 σ = if x1 ≤ x3 then (some (x2, σ)) else (if x3 < (x1 - (6 : Int32)) then (f_X11_years_61 (f_X11_years_34  n) 281 x1 x2 x3 σ) else (wg_bd (f_X5_remember 258 1 σ) (fun _ s1 => f_X11_years_61 (f_X11_years_34  n) 281 x1 x2 x3 s1))) := by
  rw [f_X11_years_34]
  simp only [sc_r0_0, sc_r281_0, sc_r281_2]
theorem e_X11_years (x1 : Int32) (σ : wg_M) : f_X11_years 281 x1 σ = wg_bd (f_X11_within x1 (1 : Int32) (60 : Int32) σ) (fun v1 s2 => if v1 = 0 then (some ((-1 : Int32), s2)) else (if (s2 1 7) ≤ ((9999 : Int32) - x1) then (f_X11_years_34  wg_N 281 x1 (0 : Int32) (0 : Int32) s2) else (some ((-1 : Int32), s2)))) := by
  unfold f_X11_years
  simp only [sc_r0_0, sc_r281_0]
theorem e_X11_feed (x1 : Int32) (x2 : Int32) (x3 : Int32) (x4 : Int32) (x5 : Int32) (σ : wg_M) : f_X11_feed 281 x1 x2 x3 x4 x5 σ = wg_bd (f_X6_hasRoomFor 260 (20 : Int32) σ) (fun v1 s2 => if v1 = 0 then (some ((-1 : Int32), s2)) else (wg_bd (f_X6_addNumber 260 x1 s2) (fun _ s3 => wg_bd (f_X6_addNumber 260 x2 s3) (fun _ s4 => wg_bd (f_X6_addNumber 260 x3 s4) (fun _ s5 => wg_bd (f_X6_addNumber 260 x4 s5) (fun _ s6 => wg_bd (f_X6_addNumber 260 x5 s6) (fun _ s7 => some (s7 260 2, s7)))))))) := by
  unfold f_X11_feed
  simp only [sc_r281_3]
theorem e_X11_end (x1 : Int32) (σ : wg_M) : f_X11_end 281 x1 σ = wg_bd (f_X11_within x1 (0 : Int32) (σ 260 2) σ) (fun v1 s2 => if v1 = 0 then (some ((0 : Int32), s2)) else (wg_st s2 260 2 x1 (fun s3 => some ((1 : Int32), s3)))) := by
  unfold f_X11_end
  simp only [sc_r281_3]
theorem e_X11_fault (x1 : Int32) (σ : wg_M) : f_X11_fault 281 x1 σ = wg_lz x1 [0, 1] [some (σ 260 8, σ), some (σ 260 9, σ)] (some ((-1 : Int32), σ)) := by
  unfold f_X11_fault
  simp only [sc_r281_3]
theorem e_X11_of (x1 : Int32) (x2 : Int32) (σ : wg_M) : f_X11_of 281 x1 x2 σ = wg_bd (f_X9_has 2 x1 σ) (fun v1 s2 => if v1 = 0 then (some ((-2 : Int32), s2)) else (wg_sw x2 (0) [wg_ga 8 (s2 3) x1 (fun v3 => some (v3, s2)), wg_ga 8 (s2 4) x1 (fun v4 => some (v4, s2)), wg_ga 8 (s2 5) x1 (fun v5 => some (v5, s2)), wg_ga 8 (s2 6) x1 (fun v6 => some (v6, s2)), wg_bd (f_X2_wearer 11 x1 s2) (fun v7 s8 => some (v7, s8)), wg_ga 8 (s2 7) x1 (fun v9 => some (v9, s2)), wg_bd (f_X1_mothOf 279 x1 s2) (fun v10 s11 => some (v10, s11))] (some ((-2 : Int32), s2)))) := by
  unfold f_X11_of
  simp only [sc_n3, sc_n4, sc_n5, sc_n6, sc_n7, sc_r0_0, sc_r1_0, sc_r1_1, sc_r2_0, sc_r2_1, sc_r2_2, sc_r2_3, sc_r2_4, sc_r281_0, sc_r281_4]
theorem e_X11_ruleOf_118 (x1 : Int32) (x2 : Int32) (x3 : Int32) (t0 : Int32) (σ : wg_M) : f_X11_ruleOf_118 281 x1 x2 x3 t0 σ = if t0 = 0 then (some ((-100 : Int32), σ)) else (wg_bd (f_X1_countsOf 279 x1 x2 (x3 - (10 : Int32)) σ) (fun v1 s2 => some (v1, s2))) := by
  unfold f_X11_ruleOf_118
  simp only [sc_r281_4]
theorem e_X11_ruleOf_117 (x1 : Int32) (x2 : Int32) (x3 : Int32) (σ : wg_M) : f_X11_ruleOf_117 281 x1 x2 x3 σ = f_X11_ruleOf_118  281 x1 x2 x3 (0 : Int32) σ := rfl
theorem e_X11_ruleOf (x1 : Int32) (x2 : Int32) (x3 : Int32) (σ : wg_M) : f_X11_ruleOf 281 x1 x2 x3 σ = wg_bd (f_X9_hasRule 2 x1 x2 σ) (fun v1 s2 => if v1 = 0 then (some ((-100 : Int32), s2)) else (wg_let ((x1 * (8 : Int32)) + x2) (fun v3 => wg_sw x3 (0) [wg_ga 64 (s2 8) v3 (fun v4 => some (v4, s2)), wg_ga 64 (s2 9) v3 (fun v5 => some (v5, s2)), wg_ga 64 (s2 10) v3 (fun v6 => some (v6, s2))] (if x3 < (10 : Int32) then (f_X11_ruleOf_117  281 x1 x2 x3 s2) else (wg_bd (f_X2_has 11 (x3 - (10 : Int32)) s2) (fun v7 s8 => if v7 = 0 then (f_X11_ruleOf_117  281 x1 x2 x3 s8) else (f_X11_ruleOf_118  281 x1 x2 x3 (1 : Int32) s8))))))) := by
  unfold f_X11_ruleOf
  simp only [sc_n8, sc_n9, sc_n10, sc_r0_0, sc_r1_0, sc_r1_1, sc_r2_5, sc_r2_6, sc_r2_7, sc_r281_0]
theorem e_X11_who (x1 : Int32) (x2 : Int32) (σ : wg_M) : f_X11_who 281 x1 x2 σ = wg_bd (f_X2_has 11 x1 σ) (fun v1 s2 => if v1 = 0 then (some ((-100 : Int32), s2)) else (wg_sw x2 (0) [wg_ga 10 (s2 12) x1 (fun v3 => some (v3, s2)), wg_ga 10 (s2 13) x1 (fun v4 => some (v4, s2)), wg_ga 10 (s2 14) x1 (fun v5 => some (v5, s2)), wg_ga 10 (s2 15) x1 (fun v6 => some (v6, s2)), wg_ga 10 (s2 16) x1 (fun v7 => some (v7, s2)), wg_bd (f_X1_diesOf 279 x1 s2) (fun v8 s9 => some (v8, s9))] (some ((-100 : Int32), s2)))) := by
  unfold f_X11_who
  simp only [sc_n12, sc_n13, sc_n14, sc_n15, sc_n16, sc_r0_0, sc_r1_1, sc_r11_0, sc_r11_1, sc_r11_2, sc_r11_3, sc_r11_4, sc_r281_0, sc_r281_4]
theorem e_X11_trialOf (x1 : Int32) (x2 : Int32) (σ : wg_M) : f_X11_trialOf 281 x1 x2 σ = wg_bd (f_X0_hasCase 1 x1 σ) (fun v1 s2 => if v1 = 0 then (some ((-100000 : Int32), s2)) else (wg_sw x2 (0) [wg_ga 14 (s2 17) x1 (fun v3 => some (v3, s2)), wg_ga 14 (s2 18) x1 (fun v4 => some (v4, s2)), wg_ga 14 (s2 19) x1 (fun v5 => some (v5, s2)), wg_ga 14 (s2 20) x1 (fun v6 => some (v6, s2))] (some ((-100000 : Int32), s2)))) := by
  unfold f_X11_trialOf
  simp only [sc_n17, sc_n18, sc_n19, sc_n20, sc_r0_0, sc_r1_2, sc_r1_3, sc_r1_4, sc_r1_5, sc_r281_0]
theorem e_X11_book (x1 : Int32) (x2 : Int32) (σ : wg_M) : f_X11_book 281 x1 x2 σ = wg_bd (f_X11_within x1 (0 : Int32) ((σ 1 9) - (1 : Int32)) σ) (fun v1 s2 => if v1 = 0 then (some ((-10000 : Int32), s2)) else (wg_sw x2 (0) [wg_ga 150 (s2 22) x1 (fun v3 => some (v3, s2)), wg_ga 150 (s2 23) x1 (fun v4 => some (v4, s2)), wg_ga 150 (s2 24) x1 (fun v5 => some (v5, s2)), wg_ga 150 (s2 25) x1 (fun v6 => some (v6, s2))] (some ((-10000 : Int32), s2)))) := by
  unfold f_X11_book
  simp only [sc_n22, sc_n23, sc_n24, sc_n25, sc_r0_0, sc_r0_1, sc_r21_0, sc_r21_1, sc_r21_2, sc_r21_3, sc_r281_0]
theorem e_X11_goes_30 (n : Nat) (x1 : Int32) (x2 : Int32) (x3 : Int32) (σ : wg_M) : f_X11_goes_30 (n + 1) 281 x1 x2 x3 σ = if x1 ≤ x3 then (wg_bd (f_X0_sumUp 1 x2 σ) (fun v1 s2 => wg_bd (f_X1_endThought 279 s2) (fun _ s3 => some (v1, s3)))) else (wg_bd (f_X1_passYear 279 σ) (fun v4 s5 => wg_let (x3 + (1 : Int32)) (fun v6 => f_X11_goes_30  n 281 x1 x2 v6 s5))) := by
  rw [f_X11_goes_30]
  simp only [sc_r0_0, sc_r281_0, sc_r281_4]
theorem e_X11_goes (x1 : Int32) (x2 : Int32) (σ : wg_M) : f_X11_goes 281 x1 x2 σ = wg_bd (f_X11_within x1 (1 : Int32) (60 : Int32) σ) (fun v1 s2 => if v1 = 0 then (some ((-1 : Int32), s2)) else (wg_bd (f_X11_within x2 (0 : Int32) (3 : Int32) s2) (fun v3 s4 => if v3 = 0 then (some ((-1 : Int32), s4)) else (wg_bd (f_X1_beginThought 279 s4) (fun _ s5 => f_X11_goes_30  wg_N 281 x1 x2 (0 : Int32) s5))))) := by
  unfold f_X11_goes
  simp only [sc_r281_4]
theorem e_X11_would (x1 : Int32) (x2 : Int32) (σ : wg_M) : f_X11_would 281 x1 x2 σ = wg_bd (f_X0_hasCase 1 x1 σ) (fun v1 s2 => if v1 = 0 then (some ((-10000 : Int32), s2)) else (wg_bd (f_X2_lives 11 x2 s2) (fun v3 s4 => if v3 = 0 then (some ((-10000 : Int32), s4)) else (wg_bd (f_X1_verdictOf 279 x1 x2 s4) (fun v5 s6 => some (v5, s6)))))) := by
  unfold f_X11_would
  simp only [sc_r0_0, sc_r1_1, sc_r281_0, sc_r281_4]
theorem e_X11_forum_39 (t0 : Int32) (t1 : Int32) (t2 : Nat) (σ : wg_M) : f_X11_forum_39 t0 t1 t2 σ = wg_bd (f_X7_forumOf t2 t1 t0 σ) (fun v1 s2 => some (v1, s2)) := rfl
theorem e_X11_forum (x1 : Int32) (x2 : Int32) (σ : wg_M) : f_X11_forum 281 x1 x2 σ = wg_bd (f_X0_hasCase 1 x1 σ) (fun v1 s2 => if v1 = 0 then (some ((-1 : Int32), s2)) else (wg_bd (f_X11_within x2 (0 : Int32) (1 : Int32) s2) (fun v3 s4 => if v3 = 0 then (some ((-1 : Int32), s4)) else (if x2 = 0 then (f_X11_forum_39  (1 : Int32) x1 280 s4) else (f_X11_forum_39  (0 : Int32) x1 280 s4))))) := by
  unfold f_X11_forum
  simp only [sc_r0_0, sc_r281_0, sc_r281_5]
theorem e_X11_combs (x1 : Int32) (x2 : Int32) (σ : wg_M) : f_X11_combs 281 x1 x2 σ = wg_bd (f_X9_has 2 x1 σ) (fun v1 s2 => if v1 = 0 then (some ((-1 : Int32), s2)) else (wg_bd (f_X11_within x2 (0 : Int32) (1 : Int32) s2) (fun v3 s4 => if v3 = 0 then (some ((-1 : Int32), s4)) else (wg_bd (f_X9_toComb 2 x1 s4) (fun v5 s6 => if x2 = 0 then (wg_bd (f_J6_bitCount_0f7a4 v5 s6) (fun v7 s8 => some (v7, s8))) else (some (v5, s6))))))) := by
  unfold f_X11_combs
  simp only [sc_r0_0, sc_r1_0, sc_r281_0]
theorem e_X11_alike (x1 : Int32) (x2 : Int32) (σ : wg_M) : f_X11_alike 281 x1 x2 σ = wg_bd (f_X9_has 2 x1 σ) (fun v1 s2 => if v1 = 0 then (some ((-1 : Int32), s2)) else (if x2 = (-1 : Int32) then (wg_bd (f_X9_nearest 2 x1 s2) (fun v7 s8 => some (v7, s8))) else (wg_bd (f_X9_has 2 x2 s2) (fun v3 s4 => if v3 = 0 then (some ((-1 : Int32), s4)) else (wg_bd (f_X9_apart 2 x1 x2 s4) (fun v5 s6 => some (v5, s6))))))) := by
  unfold f_X11_alike
  simp only [sc_r0_0, sc_r1_0, sc_r281_0]
theorem e_X11_heir (x1 : Int32) (x2 : Int32) (σ : wg_M) : f_X11_heir 281 x1 x2 σ = wg_bd (f_X9_has 2 x1 σ) (fun v1 s2 => if v1 = 0 then (some ((-1 : Int32), s2)) else (wg_bd (f_X11_within x2 (1 : Int32) (9 : Int32) s2) (fun v3 s4 => if v3 = 0 then (some ((-1 : Int32), s4)) else (wg_bd (f_X7_heirOf 280 x1 x2 s4) (fun v5 s6 => some (v5, s6)))))) := by
  unfold f_X11_heir
  simp only [sc_r0_0, sc_r1_0, sc_r281_0, sc_r281_5]
theorem e_X11_kin (x1 : Int32) (x2 : Int32) (σ : wg_M) : f_X11_kin 281 x1 x2 σ = wg_bd (f_X9_has 2 x1 σ) (fun v1 s2 => if v1 = 0 then (some ((-1 : Int32), s2)) else (if x2 = (-1 : Int32) then (wg_bd (f_X7_rootOf 280 x1 s2) (fun v7 s8 => some (v7, s8))) else (wg_bd (f_X9_has 2 x2 s2) (fun v3 s4 => if v3 = 0 then (some ((-1 : Int32), s4)) else (wg_bd (f_X7_commonOf 280 x1 x2 s4) (fun v5 s6 => some (v5, s6))))))) := by
  unfold f_X11_kin
  simp only [sc_r0_0, sc_r1_0, sc_r281_0, sc_r281_5]
theorem e_X11_saves (x1 : Int32) (x2 : Int32) (σ : wg_M) : f_X11_saves 281 x1 x2 σ = wg_bd (f_X11_within x1 (1 : Int32) (400 : Int32) σ) (fun v1 s2 => if v1 = 0 then (some ((-1 : Int32), s2)) else (wg_bd (f_X11_within x2 (0 : Int32) (1 : Int32) s2) (fun v3 s4 => if v3 = 0 then (some ((-1 : Int32), s4)) else (wg_bd (f_X9_toSave 2 x1 s4) (fun v5 s6 => if x2 = 0 then (wg_bd (f_X9_worthOf 2 v5 s6) (fun v7 s8 => some (v7, s8))) else (some (v5, s6))))))) := by
  unfold f_X11_saves
  simp only [sc_r0_0, sc_r1_0, sc_r281_0]
theorem e_X11_panels (x1 : Int32) (x2 : Int32) (σ : wg_M) : f_X11_panels 281 x1 x2 σ = wg_bd (f_X0_hasCase 1 x1 σ) (fun v1 s2 => if v1 = 0 then (some ((-1 : Int32), s2)) else (if x2 = 0 then (wg_bd (f_X7_panelsFor 280 x1 s2) (fun v7 s8 => some (v7, s8))) else (if x2 < (10 : Int32) then (some ((-1 : Int32), s2)) else (wg_bd (f_X2_has 11 (x2 - (10 : Int32)) s2) (fun v3 s4 => if v3 = 0 then (some ((-1 : Int32), s4)) else (wg_bd (f_X7_turnsOf 280 x1 (x2 - (10 : Int32)) s4) (fun v5 s6 => some (v5, s6)))))))) := by
  unfold f_X11_panels
  simp only [sc_r0_0, sc_r1_1, sc_r281_0, sc_r281_5]
theorem e_X11_trait_36 (t0 : Int32) (t1 : Int32) (t2 : Int32) (t3 : Nat) (σ : wg_M) : f_X11_trait_36 t0 t1 t2 t3 σ = wg_bd (f_X8_addTrait t3 t2 t1 t0 σ) (fun v1 s2 => some (v1, s2)) := rfl
theorem e_X11_trait (x1 : Int32) (x2 : Int32) (x3 : Int32) (σ : wg_M) : f_X11_trait 281 x1 x2 x3 σ = if x1 = (-1 : Int32) then (wg_st σ 49 3 (0 : Int32) (fun s1 => some ((0 : Int32), s1))) else (if x3 = 0 then (f_X11_trait_36  (0 : Int32) x2 x1 49 σ) else (f_X11_trait_36  (1 : Int32) x2 x1 49 σ)) := by
  unfold f_X11_trait
  simp only [sc_r0_6, sc_r281_0]
theorem e_X11_whose (x1 : Int32) (σ : wg_M) : f_X11_whose 281 x1 σ = wg_lz x1 [0, 1] [wg_bd (f_X7_whoseSet 280 σ) (fun v1 s2 => some (v1, s2)), wg_bd (f_X7_causeToLookAt 280 σ) (fun v3 s4 => some (v3, s4))] (some ((-1 : Int32), σ)) := by
  unfold f_X11_whose
  simp only [sc_r281_5]
theorem e_X11_cite (x1 : Int32) (x2 : Int32) (σ : wg_M) : f_X11_cite 281 x1 x2 σ = if x1 = (-1 : Int32) then (wg_st σ 49 6 (0 : Int32) (fun s3 => some ((0 : Int32), s3))) else (wg_bd (f_X8_addCite 49 x1 x2 σ) (fun v1 s2 => some (v1, s2))) := by
  unfold f_X11_cite
  simp only [sc_r0_6, sc_r281_0]
theorem e_X11_chain_26 (t0 : Int32) (t1 : Nat) (σ : wg_M) : f_X11_chain_26 t0 t1 σ = wg_bd (f_X8_longestRow t1 t0 σ) (fun v1 s2 => some (v1, s2)) := rfl
theorem e_X11_chain (x1 : Int32) (σ : wg_M) : f_X11_chain 281 x1 σ = wg_bd (f_X11_within x1 (0 : Int32) (1 : Int32) σ) (fun v1 s2 => if v1 = 0 then (some ((-1 : Int32), s2)) else (if x1 = (1 : Int32) then (f_X11_chain_26  (1 : Int32) 49 s2) else (f_X11_chain_26  (0 : Int32) 49 s2))) := by
  unfold f_X11_chain
  simp only [sc_r0_6, sc_r281_0]
theorem e_X11_parcel (x1 : Int32) (x2 : Int32) (x3 : Int32) (σ : wg_M) : f_X11_parcel 281 x1 x2 x3 σ = wg_bd (f_X11_within x1 (0 : Int32) (9 : Int32) σ) (fun v1 s2 => if v1 = 0 then (some ((0 : Int32), s2)) else (wg_bd (f_X11_within x2 (0 : Int32) (1 : Int32) s2) (fun v3 s4 => if v3 = 0 then (some ((0 : Int32), s4)) else (wg_bd (f_X11_within x3 (0 : Int32) (99 : Int32) s4) (fun v5 s6 => if v5 = 0 then (some ((0 : Int32), s6)) else (wg_sa 20 s6 55 ((x2 * (10 : Int32)) + x1) x3 (fun s7 => some ((1 : Int32), s7)))))))) := by
  unfold f_X11_parcel
  simp only [sc_n55, sc_r0_6, sc_r49_7, sc_r281_0]
theorem e_X11_cut (x1 : Int32) (σ : wg_M) : f_X11_cut 281 x1 σ = wg_sw x1 (0) [wg_bd (f_X8_cutPlace 49 σ) (fun v1 s2 => some (v1, s2)), wg_bd (f_X8_otherHas 49 σ) (fun v3 s4 => some (v3, s4)), wg_bd (f_X8_oneHas 49 σ) (fun v5 s6 => some (v5, s6))] (some ((-1 : Int32), σ)) := by
  unfold f_X11_cut
  simp only [sc_r0_6, sc_r281_0]
theorem e_X11_hard (x1 : Int32) (x2 : Int32) (σ : wg_M) : f_X11_hard 281 x1 x2 σ = if x1 = (-1 : Int32) then (wg_st σ 49 10 (0 : Int32) (fun s3 => some ((0 : Int32), s3))) else (wg_bd (f_X8_addHard 49 x1 x2 σ) (fun v1 s2 => some (v1, s2))) := by
  unfold f_X11_hard
  simp only [sc_r0_6, sc_r281_0]
theorem e_X11_hears (x1 : Int32) (σ : wg_M) : f_X11_hears 281 x1 σ = if x1 = 0 then (wg_bd (f_X8_lateness 49 (0 : Int32) (0 : Int32) σ) (fun v3 s4 => some (v3, s4))) else (if x1 < (10 : Int32) then (some ((-1 : Int32), σ)) else (if (x1 - (10 : Int32)) < (σ 49 10) then (wg_bd (f_X8_heardAt 49 (x1 - (10 : Int32)) σ) (fun v1 s2 => some (v1, s2))) else (some ((-1 : Int32), σ)))) := by
  unfold f_X11_hears
  simp only [sc_r0_6, sc_r281_0]
theorem e_X11_game_30 (t0 : Int32) (t1 : Nat) (σ : wg_M) : f_X11_game_30 t0 t1 σ = wg_bd (f_X9_wellPulled t1 t0 σ) (fun v1 s2 => some (v1, s2)) := rfl
theorem e_X11_game (x1 : Int32) (σ : wg_M) : f_X11_game 281 x1 σ = wg_bd (f_X11_within x1 (0 : Int32) (1 : Int32) σ) (fun v1 s2 => if v1 = 0 then (some ((-1 : Int32), s2)) else (if x1 = 0 then (f_X11_game_30  (1 : Int32) 2 s2) else (f_X11_game_30  (0 : Int32) 2 s2))) := by
  unfold f_X11_game
  simp only [sc_r0_0, sc_r1_0, sc_r281_0]
theorem e_X11_undo (σ : wg_M) : f_X11_undo 281 σ = wg_bd (f_X5_goBack 258 1 σ) (fun v1 s2 => wg_bz v1 (some (v1, s2))) := by
  unfold f_X11_undo
  simp only [sc_r0_0, sc_r281_0, sc_r281_2]
theorem e_X11_image (x1 : Int32) (σ : wg_M) : f_X11_image 281 x1 σ = if x1 = 0 then (if (σ 281 6) = 0 then (some ((0 : Int32), σ)) else (wg_bd (f_X10_copyFrom 0 59 σ) (fun _ s1 => wg_bd (f_X5_forget 258 s1) (fun _ s2 => some ((1 : Int32), s2))))) else (wg_bd (f_X10_copyFrom 59 0 σ) (fun _ s3 => wg_bz (1 : Int32) (wg_st s3 281 6 (1 : Int32) (fun s4 => some ((1 : Int32), s4))))) := by
  unfold f_X11_image
  simp only [sc_r281_0, sc_r281_1, sc_r281_2]
theorem e_X11_look (x1 : Int32) (σ : wg_M) : f_X11_look 281 x1 σ = wg_sw x1 (0) [some (σ 2 8, σ), some (σ 11 5, σ), some (σ 1 6, σ), some (σ 1 7, σ), wg_bd (f_X2_deadSet 11 σ) (fun v1 s2 => some (v1, s2)), wg_bd (f_X0_openSet 1 σ) (fun v3 s4 => some (v3, s4)), some (σ 1 9, σ), some (σ 1 8, σ), some (σ 26 6, σ), some (σ 34 4, σ), some (σ 39 4, σ), some (σ 44 4, σ), some (σ 258 2, σ)] (some ((-1 : Int32), σ)) := by
  unfold f_X11_look
  simp only [sc_r0_0, sc_r0_2, sc_r0_3, sc_r0_4, sc_r0_5, sc_r1_0, sc_r1_1, sc_r281_0, sc_r281_2]
theorem e_X12_isIn (x1 : Int32) (x2 : Int32) (x3 : Int32) (σ : wg_M) : f_X12_isIn 0 x1 x2 x3 σ = if x1 < x2 then (some ((0 : Int32), σ)) else (if x3 < x1 then (some ((0 : Int32), σ)) else (some ((1 : Int32), σ))) := rfl
theorem e_X12_held (x1 : Int32) (x2 : Int32) (x3 : Int32) (σ : wg_M) : f_X12_held 0 x1 x2 x3 σ = if x2 ≤ x1 then (if x1 ≤ x3 then (some (x1, σ)) else (some (x3, σ))) else (some (x2, σ)) := rfl
theorem e_X12_greater (x1 : Int32) (x2 : Int32) (σ : wg_M) : f_X12_greater 0 x1 x2 σ = if x1 ≤ x2 then (some (x2, σ)) else (some (x1, σ)) := rfl
theorem e_X12_lesser (x1 : Int32) (x2 : Int32) (σ : wg_M) : f_X12_lesser 0 x1 x2 σ = if x2 ≤ x1 then (some (x2, σ)) else (some (x1, σ)) := rfl
theorem e_X12_onesOf_4 (n : Nat) (x2 : Int32) (x3 : Int32) (σ : wg_M) : f_X12_onesOf_4 (n + 1) x2 x3 σ = if x3 = 0 then (some (x2, σ)) else (wg_let (x2 + (1 : Int32)) (fun v1 => wg_let (x3 &&& (x3 - (1 : Int32))) (fun v2 => f_X12_onesOf_4  n v1 v2 σ))) := by
  rw [f_X12_onesOf_4]
theorem e_X12_onesOf (x1 : Int32) (σ : wg_M) : f_X12_onesOf 0 x1 σ = f_X12_onesOf_4  wg_N (0 : Int32) x1 σ := rfl
theorem e_X12_has (x1 : Int32) (x2 : Int32) (σ : wg_M) : f_X12_has 0 x1 x2 σ = if ((x1 >>> (x2 &&& 31)) &&& (1 : Int32)) = (1 : Int32) then (some ((1 : Int32), σ)) else (some ((0 : Int32), σ)) := rfl
theorem e_X12_partOf (x1 : Int32) (x2 : Int32) (σ : wg_M) : f_X12_partOf 0 x1 x2 σ = if x1 < 0 then (wg_dv ((x2 - (1 : Int32)) - x1) x2 (fun v1 => some (-v1, σ))) else (wg_dv x1 x2 (fun v2 => some (v2, σ))) := rfl
theorem e_X12_keepsAhead_57 (n : Nat) (x1 : Int32) (σ : wg_M) : f_X12_keepsAhead_57 (n + 1) 0 x1 σ = if (295 : Int32) ≤ x1 then (wg_st σ 0 3 ((σ 0 3) + (1 : Int32)) (fun s1 => some (0, s1))) else (wg_ga 295 (σ 1) x1 (fun v2 => wg_sa 1770 σ 2 (((295 : Int32) * (σ 0 3)) + x1) v2 (fun s3 => wg_let (x1 + (1 : Int32)) (fun v4 => f_X12_keepsAhead_57  n 0 v4 s3)))) := by
  rw [f_X12_keepsAhead_57]
  simp only [sm_n1, sm_n2, sm_r0_1, sm_r0_2]
theorem e_X12_keepsAhead_55 (σ : wg_M) : f_X12_keepsAhead_55 0 σ = f_X12_keepsAhead_57  wg_N 0 (0 : Int32) σ := rfl
theorem e_X12_keepsAhead_21 (n : Nat) (x1 : Int32) (σ : wg_M) : f_X12_keepsAhead_21 (n + 1) 0 x1 σ = if ((295 : Int32) * (σ 0 3)) ≤ x1 then (f_X12_keepsAhead_55  0 σ) else (wg_ga 1770 (σ 2) (x1 + (295 : Int32)) (fun v1 => wg_sa 1770 σ 2 x1 v1 (fun s2 => wg_let (x1 + (1 : Int32)) (fun v3 => f_X12_keepsAhead_21  n 0 v3 s2)))) := by
  rw [f_X12_keepsAhead_21]
  simp only [sm_n2, sm_r0_2]
theorem e_X12_keepsAhead (σ : wg_M) : f_X12_keepsAhead 0 σ = if (σ 0 3) = (6 : Int32) then (wg_st σ 0 3 ((σ 0 3) - (1 : Int32)) (fun s1 => f_X12_keepsAhead_21  wg_N 0 (0 : Int32) s1)) else (f_X12_keepsAhead_55  0 σ) := rfl
theorem e_X12_undo_26 (n : Nat) (x1 : Int32) (σ : wg_M) : f_X12_undo_26 (n + 1) 0 x1 σ = if (295 : Int32) ≤ x1 then (some ((1 : Int32), σ)) else (wg_ga 1770 (σ 2) (((295 : Int32) * (σ 0 3)) + x1) (fun v1 => wg_sa 295 σ 1 x1 v1 (fun s2 => wg_let (x1 + (1 : Int32)) (fun v3 => f_X12_undo_26  n 0 v3 s2)))) := by
  rw [f_X12_undo_26]
  simp only [sm_n1, sm_n2, sm_r0_1, sm_r0_2]
theorem e_X12_undo (σ : wg_M) : f_X12_undo 0 σ = wg_st σ 0 0 (0 : Int32) (fun s1 => if (s1 0 3) = 0 then (some ((0 : Int32), s1)) else (wg_st s1 0 3 ((s1 0 3) - (1 : Int32)) (fun s2 => f_X12_undo_26  wg_N 0 (0 : Int32) s2))) := rfl
theorem e_X12_thinks_2 (n : Nat) (x1 : Int32) (σ : wg_M) : f_X12_thinks_2 (n + 1) 0 x1 σ = if (295 : Int32) ≤ x1 then (wg_bz (1 : Int32) (wg_st σ 0 5 (1 : Int32) (fun s1 => some (0, s1)))) else (wg_ga 295 (σ 1) x1 (fun v2 => wg_sa 295 σ 3 x1 v2 (fun s3 => wg_let (x1 + (1 : Int32)) (fun v4 => f_X12_thinks_2  n 0 v4 s3)))) := by
  rw [f_X12_thinks_2]
  simp only [sm_n1, sm_n3, sm_r0_1, sm_r0_4]
theorem e_X12_thinks (σ : wg_M) : f_X12_thinks 0 σ = f_X12_thinks_2  wg_N 0 (0 : Int32) σ := rfl
theorem e_X12_endsThought_2 (n : Nat) (x1 : Int32) (σ : wg_M) : f_X12_endsThought_2 (n + 1) 0 x1 σ = if (295 : Int32) ≤ x1 then (wg_bz (0 : Int32) (wg_st σ 0 5 (0 : Int32) (fun s1 => some (0, s1)))) else (wg_ga 295 (σ 3) x1 (fun v2 => wg_sa 295 σ 1 x1 v2 (fun s3 => wg_let (x1 + (1 : Int32)) (fun v4 => f_X12_endsThought_2  n 0 v4 s3)))) := by
  rw [f_X12_endsThought_2]
  simp only [sm_n1, sm_n3, sm_r0_1, sm_r0_4]
theorem e_X12_endsThought (σ : wg_M) : f_X12_endsThought 0 σ = f_X12_endsThought_2  wg_N 0 (0 : Int32) σ := rfl
theorem e_X12_state (x1 : Int32) (σ : wg_M) : f_X12_state 0 x1 σ = wg_st σ 0 0 (0 : Int32) (fun s1 => wg_ga 295 (s1 1) (1 : Int32) (fun v2 => wg_sa 295 s1 1 (1 : Int32) x1 (fun s3 => wg_st s3 0 3 (0 : Int32) (fun s4 => some (v2, s4))))) := by
  unfold f_X12_state
  simp only [sm_n1, sm_r0_1]
theorem e_X12_draw (x1 : Int32) (σ : wg_M) : f_X12_draw 0 x1 σ = wg_ga 295 (σ 1) (1 : Int32) (fun v1 => wg_sa 295 σ 1 (1 : Int32) (((1664525 : Int32) * v1) + (1013904223 : Int32)) (fun s2 => wg_ga 295 (s2 1) (1 : Int32) (fun v3 => wg_rm (wg_ush v3 (8 : Int32)) x1 (fun v4 => some (v4, s2))))) := by
  unfold f_X12_draw
  simp only [sm_n1, sm_r0_1]
theorem e_X12_isWig (x1 : Int32) (σ : wg_M) : f_X12_isWig 0 x1 σ = if x1 < 0 then (some ((0 : Int32), σ)) else (if (σ 0 6) ≤ x1 then (some ((0 : Int32), σ)) else (some ((1 : Int32), σ))) := rfl
theorem e_X12_isJudge (x1 : Int32) (σ : wg_M) : f_X12_isJudge 0 x1 σ = if x1 < 0 then (some ((0 : Int32), σ)) else (if (σ 0 7) ≤ x1 then (some ((0 : Int32), σ)) else (some ((1 : Int32), σ))) := rfl
theorem e_X12_isTrial (x1 : Int32) (σ : wg_M) : f_X12_isTrial 0 x1 σ = if x1 < 0 then (some ((0 : Int32), σ)) else (if (σ 0 8) ≤ x1 then (some ((0 : Int32), σ)) else (some ((1 : Int32), σ))) := rfl
theorem e_X12_wigOf (x1 : Int32) (σ : wg_M) : f_X12_wigOf 0 x1 σ = wg_ga 295 (σ 1) ((13 : Int32) + x1) (fun v1 => some (v1 - (1 : Int32), σ)) := by
  unfold f_X12_wigOf
  simp only [sm_n1, sm_r0_1]
theorem e_X12_isAlive (x1 : Int32) (σ : wg_M) : f_X12_isAlive 0 x1 σ = wg_ga 295 (σ 1) ((23 : Int32) + x1) (fun v1 => if v1 = 0 then (some ((1 : Int32), σ)) else (some ((0 : Int32), σ))) := by
  unfold f_X12_isAlive
  simp only [sm_n1, sm_r0_1]
theorem e_X12_wearerOf_2 (n : Nat) (x1 : Int32) (x2 : Int32) (σ : wg_M) : f_X12_wearerOf_2 (n + 1) 0 x1 x2 σ = if (σ 0 7) ≤ x2 then (some ((-1 : Int32), σ)) else (wg_bd (f_X12_wigOf 0 x2 σ) (fun v1 s2 => if v1 = x1 then (some (x2, s2)) else (wg_let (x2 + (1 : Int32)) (fun v3 => f_X12_wearerOf_2  n 0 x1 v3 s2)))) := by
  rw [f_X12_wearerOf_2]
theorem e_X12_wearerOf (x1 : Int32) (σ : wg_M) : f_X12_wearerOf 0 x1 σ = f_X12_wearerOf_2  wg_N 0 x1 (0 : Int32) σ := rfl
theorem e_X12_ruleAt (x1 : Int32) (x2 : Int32) (σ : wg_M) : f_X12_ruleAt 0 x1 x2 σ = some (((75 : Int32) + ((24 : Int32) * x1)) + ((3 : Int32) * x2), σ) := rfl
theorem e_X12_isItching_81 (σ : wg_M) : f_X12_isItching_81 σ = some ((1 : Int32), σ) := rfl
theorem e_X12_isItching_57 (x4 : Int32) (x5 : Int32) (σ : wg_M) : f_X12_isItching_57 0 x4 x5 σ = wg_ga 295 (σ 1) (x4 + (1 : Int32)) (fun v1 => if v1 ≤ 0 then (some ((0 : Int32), σ)) else (wg_ga 295 (σ 1) (x5 + (1 : Int32)) (fun v2 => if 0 ≤ v2 then (some ((0 : Int32), σ)) else (f_X12_isItching_81   σ)))) := by
  unfold f_X12_isItching_57
  simp only [sm_n1, sm_r0_1]
theorem e_X12_isItching (x1 : Int32) (x2 : Int32) (x3 : Int32) (σ : wg_M) : f_X12_isItching 0 x1 x2 x3 σ = wg_bd (f_X12_ruleAt 0 x1 x2 σ) (fun v1 s2 => wg_bd (f_X12_ruleAt 0 x1 x3 s2) (fun v3 s4 => wg_ga 295 (s4 1) v1 (fun v5 => wg_ga 295 (s4 1) v3 (fun v6 => if v5 = v6 then (wg_ga 295 (s4 1) (v1 + (1 : Int32)) (fun v7 => if 0 ≤ v7 then (f_X12_isItching_57  0 v1 v3 s4) else (wg_ga 295 (s4 1) (v3 + (1 : Int32)) (fun v8 => if 0 < v8 then (f_X12_isItching_81   s4) else (f_X12_isItching_57  0 v1 v3 s4))))) else (some ((0 : Int32), s4)))))) := by
  unfold f_X12_isItching
  simp only [sm_n1, sm_r0_1]
theorem e_X12_itches_41 (k20 : Nat → Int32 → Int32 → Int32 → Int32 → wg_M → Option (Int32 × wg_M)) (x1 : Int32) (x2 : Int32) (x3 : Int32) (x4 : Int32) (σ : wg_M) : f_X12_itches_41 k20 0 x1 x2 x3 x4 σ = wg_let (x4 + (1 : Int32)) (fun v1 => k20 0 x1 x2 x3 v1 σ) := rfl
theorem e_X12_itches_20 (k4 : Nat → Int32 → Int32 → Int32 → wg_M → Option (Int32 × wg_M)) (n : Nat) (x1 : Int32) (x2 : Int32) (x3 : Int32) (x4 : Int32) (σ : wg_M) : f_X12_itches_20 k4 (n + 1) 0 x1 x2 x3 x4 σ = if x3 ≤ x4 then (wg_let (x3 + (1 : Int32)) (fun v1 => k4 0 x1 x2 v1 σ)) else (wg_bd (f_X12_isItching 0 x1 x3 x4 σ) (fun v2 s3 => if v2 = 0 then (f_X12_itches_41 (f_X12_itches_20 k4 n) 0 x1 x2 x3 x4 s3) else (wg_let (x2 + (1 : Int32)) (fun v4 => f_X12_itches_41 (f_X12_itches_20 k4 n) 0 x1 v4 x3 x4 s3)))) := by
  rw [f_X12_itches_20]
theorem e_X12_itches_4 (n : Nat) (x1 : Int32) (x2 : Int32) (x3 : Int32) (σ : wg_M) : f_X12_itches_4 (n + 1) 0 x1 x2 x3 σ = wg_ga 295 (σ 1) ((67 : Int32) + x1) (fun v1 => if v1 ≤ x3 then (wg_bd (f_X12_lesser 0 (99 : Int32) ((9 : Int32) * x2) σ) (fun v2 s3 => wg_sa 295 s3 1 ((51 : Int32) + x1) v2 (fun s4 => some (0, s4)))) else (f_X12_itches_20 (f_X12_itches_4  n) wg_N 0 x1 x2 x3 (0 : Int32) σ)) := by
  rw [f_X12_itches_4]
  simp only [sm_n1, sm_r0_1]
theorem e_X12_itches (x1 : Int32) (σ : wg_M) : f_X12_itches 0 x1 σ = f_X12_itches_4  wg_N 0 x1 (0 : Int32) (0 : Int32) σ := rfl
theorem e_X12_goesRule_7 (n : Nat) (x1 : Int32) (x3 : Int32) (σ : wg_M) : f_X12_goesRule_7 (n + 1) 0 x1 x3 σ = wg_ga 295 (σ 1) ((67 : Int32) + x1) (fun v1 => wg_bd (f_X12_ruleAt 0 x1 (v1 - (1 : Int32)) σ) (fun v2 s3 => if v2 ≤ x3 then (wg_ga 295 (s3 1) ((67 : Int32) + x1) (fun v4 => wg_sa 295 s3 1 ((67 : Int32) + x1) (v4 - (1 : Int32)) (fun s5 => some (0, s5)))) else (wg_ga 295 (s3 1) (x3 + (3 : Int32)) (fun v6 => wg_sa 295 s3 1 x3 v6 (fun s7 => wg_let (x3 + (1 : Int32)) (fun v8 => f_X12_goesRule_7  n 0 x1 v8 s7)))))) := by
  rw [f_X12_goesRule_7]
  simp only [sm_n1, sm_r0_1]
theorem e_X12_goesRule (x1 : Int32) (x2 : Int32) (σ : wg_M) : f_X12_goesRule 0 x1 x2 σ = wg_bd (f_X12_ruleAt 0 x1 x2 σ) (fun v1 s2 => f_X12_goesRule_7  wg_N 0 x1 v1 s2) := rfl
theorem e_X12_comesRule (x1 : Int32) (x2 : Int32) (x3 : Int32) (x4 : Int32) (σ : wg_M) : f_X12_comesRule 0 x1 x2 x3 x4 σ = wg_ga 295 (σ 1) ((67 : Int32) + x1) (fun v1 => wg_bd (f_X12_ruleAt 0 x1 v1 σ) (fun v2 s3 => wg_sa 295 s3 1 v2 x2 (fun s4 => wg_sa 295 s4 1 (v2 + (1 : Int32)) x3 (fun s5 => wg_sa 295 s5 1 (v2 + (2 : Int32)) x4 (fun s6 => wg_ga 295 (s6 1) ((67 : Int32) + x1) (fun v7 => wg_sa 295 s6 1 ((67 : Int32) + x1) (v7 + (1 : Int32)) (fun s8 => wg_bd (f_X12_itches 0 x1 s8) (fun _ s9 => some (0, s9))))))))) := by
  unfold f_X12_comesRule
  simp only [sm_n1, sm_r0_1]
theorem e_X12_wig (x1 : Int32) (x2 : Int32) (σ : wg_M) : f_X12_wig 0 x1 x2 σ = wg_st σ 0 0 (0 : Int32) (fun s1 => wg_bd (f_X12_isIn 0 x1 (0 : Int32) (2 : Int32) s1) (fun v2 s3 => if v2 = 0 then (some ((-1 : Int32), s3)) else (wg_bd (f_X12_isIn 0 x2 (0 : Int32) (99 : Int32) s3) (fun v4 s5 => if v4 = 0 then (some ((-1 : Int32), s5)) else (if (s5 0 6) = (8 : Int32) then (some ((-1 : Int32), s5)) else (wg_sa 8 s5 4 (s5 0 6) x1 (fun s6 => wg_sa 295 s6 1 ((43 : Int32) + (s6 0 6)) x2 (fun s7 => wg_sa 295 s7 1 ((51 : Int32) + (s7 0 6)) (0 : Int32) (fun s8 => wg_sa 295 s8 1 ((59 : Int32) + (s8 0 6)) (0 : Int32) (fun s9 => wg_sa 295 s9 1 ((67 : Int32) + (s9 0 6)) (0 : Int32) (fun s10 => wg_st s10 0 6 ((s10 0 6) + (1 : Int32)) (fun s11 => wg_st s11 0 3 (0 : Int32) (fun s12 => some ((s12 0 6) - (1 : Int32), s12)))))))))))))) := by
  unfold f_X12_wig
  simp only [sm_n1, sm_n4, sm_r0_1, sm_r0_9]
theorem e_X12_judge (x1 : Int32) (x2 : Int32) (σ : wg_M) : f_X12_judge 0 x1 x2 σ = wg_st σ 0 0 (0 : Int32) (fun s1 => wg_bd (f_X12_isIn 0 x1 (0 : Int32) (120 : Int32) s1) (fun v2 s3 => if v2 = 0 then (some ((-1 : Int32), s3)) else (wg_bd (f_X12_isIn 0 x2 (-9 : Int32) (9 : Int32) s3) (fun v4 s5 => if v4 = 0 then (some ((-1 : Int32), s5)) else (if (s5 0 7) = (10 : Int32) then (some ((-1 : Int32), s5)) else (wg_sa 295 s5 1 ((3 : Int32) + (s5 0 7)) x1 (fun s6 => wg_sa 295 s6 1 ((13 : Int32) + (s6 0 7)) (0 : Int32) (fun s7 => wg_sa 295 s7 1 ((23 : Int32) + (s7 0 7)) (0 : Int32) (fun s8 => wg_sa 295 s8 1 ((33 : Int32) + (s8 0 7)) (0 : Int32) (fun s9 => wg_sa 10 s9 5 (s9 0 7) x2 (fun s10 => wg_st s10 0 7 ((s10 0 7) + (1 : Int32)) (fun s11 => wg_st s11 0 3 (0 : Int32) (fun s12 => some ((s12 0 7) - (1 : Int32), s12)))))))))))))) := by
  unfold f_X12_judge
  simp only [sm_n1, sm_n5, sm_r0_1, sm_r0_10]
theorem e_X12_trial (x1 : Int32) (x2 : Int32) (σ : wg_M) : f_X12_trial 0 x1 x2 σ = wg_st σ 0 0 (0 : Int32) (fun s1 => wg_bd (f_X12_isIn 0 x1 (0 : Int32) (7 : Int32) s1) (fun v2 s3 => if v2 = 0 then (some ((-1 : Int32), s3)) else (wg_bd (f_X12_isIn 0 x2 (-99 : Int32) (99 : Int32) s3) (fun v4 s5 => if v4 = 0 then (some ((-1 : Int32), s5)) else (if (s5 0 8) = (14 : Int32) then (some ((-1 : Int32), s5)) else (wg_sa 14 s5 6 (s5 0 8) x1 (fun s6 => wg_sa 14 s6 7 (s6 0 8) x2 (fun s7 => wg_sa 295 s7 1 ((267 : Int32) + (s7 0 8)) (0 : Int32) (fun s8 => wg_sa 295 s8 1 ((281 : Int32) + (s8 0 8)) (0 : Int32) (fun s9 => wg_st s9 0 8 ((s9 0 8) + (1 : Int32)) (fun s10 => wg_st s10 0 3 (0 : Int32) (fun s11 => some ((s11 0 8) - (1 : Int32), s11))))))))))))) := by
  unfold f_X12_trial
  simp only [sm_n1, sm_n6, sm_n7, sm_r0_1, sm_r0_11, sm_r0_12]
theorem e_X12_rule (x1 : Int32) (x2 : Int32) (x3 : Int32) (x4 : Int32) (σ : wg_M) : f_X12_rule 0 x1 x2 x3 x4 σ = wg_st σ 0 0 (0 : Int32) (fun s1 => wg_bd (f_X12_isWig 0 x1 s1) (fun v2 s3 => if v2 = 0 then (some ((-1 : Int32), s3)) else (wg_bd (f_X12_isIn 0 x2 (0 : Int32) (7 : Int32) s3) (fun v4 s5 => if v4 = 0 then (some ((-1 : Int32), s5)) else (wg_bd (f_X12_isIn 0 x3 (-9 : Int32) (9 : Int32) s5) (fun v6 s7 => if v6 = 0 then (some ((-1 : Int32), s7)) else (wg_bd (f_X12_isIn 0 x4 (1 : Int32) (99 : Int32) s7) (fun v8 s9 => if v8 = 0 then (some ((-1 : Int32), s9)) else (wg_ga 295 (s9 1) ((67 : Int32) + x1) (fun v10 => if v10 = (8 : Int32) then (some ((-1 : Int32), s9)) else (wg_bd (f_X12_comesRule 0 x1 x2 x3 x4 s9) (fun _ s11 => wg_st s11 0 3 (0 : Int32) (fun s12 => wg_ga 295 (s12 1) ((67 : Int32) + x1) (fun v13 => some (v13, s12))))))))))))))) := by
  unfold f_X12_rule
  simp only [sm_n1, sm_r0_1]
theorem e_X12_canSet (x1 : Int32) (x2 : Int32) (x3 : Int32) (σ : wg_M) : f_X12_canSet 0 x1 x2 x3 σ = if x1 = 0 then (wg_bd (f_X12_isJudge 0 x2 σ) (fun v13 s14 => if v13 = 0 then (some ((0 : Int32), s14)) else (wg_bd (f_X12_isIn 0 x3 (0 : Int32) (120 : Int32) s14) (fun v15 s16 => if v15 = 0 then (some ((0 : Int32), s16)) else (some ((1 : Int32), s16)))))) else (if x1 = (1 : Int32) then (wg_bd (f_X12_isJudge 0 x2 σ) (fun v9 s10 => if v9 = 0 then (some ((0 : Int32), s10)) else (wg_bd (f_X12_isIn 0 x3 (-9 : Int32) (9 : Int32) s10) (fun v11 s12 => if v11 = 0 then (some ((0 : Int32), s12)) else (some ((1 : Int32), s12)))))) else (if x1 = (2 : Int32) then (wg_bd (f_X12_isWig 0 x2 σ) (fun v5 s6 => if v5 = 0 then (some ((0 : Int32), s6)) else (wg_bd (f_X12_isIn 0 x3 (0 : Int32) (99 : Int32) s6) (fun v7 s8 => if v7 = 0 then (some ((0 : Int32), s8)) else (some ((1 : Int32), s8)))))) else (if x1 = (3 : Int32) then (wg_bd (f_X12_isTrial 0 x2 σ) (fun v1 s2 => if v1 = 0 then (some ((0 : Int32), s2)) else (wg_bd (f_X12_isIn 0 x3 (-99 : Int32) (99 : Int32) s2) (fun v3 s4 => if v3 = 0 then (some ((0 : Int32), s4)) else (some ((1 : Int32), s4)))))) else (some ((0 : Int32), σ))))) := rfl
theorem e_X12_set_69 (σ : wg_M) : f_X12_set_69 0 σ = wg_st σ 0 3 (0 : Int32) (fun s1 => some ((1 : Int32), s1)) := rfl
theorem e_X12_set_57 (x1 : Int32) (x2 : Int32) (x3 : Int32) (σ : wg_M) : f_X12_set_57 0 x1 x2 x3 σ = if x1 = (3 : Int32) then (wg_sa 14 σ 7 x2 x3 (fun s1 => f_X12_set_69  0 s1)) else (f_X12_set_69  0 σ) := by
  unfold f_X12_set_57
  simp only [sm_n7, sm_r0_12]
theorem e_X12_set_42 (x1 : Int32) (x2 : Int32) (x3 : Int32) (σ : wg_M) : f_X12_set_42 0 x1 x2 x3 σ = if x1 = (2 : Int32) then (wg_sa 295 σ 1 ((43 : Int32) + x2) x3 (fun s1 => f_X12_set_57  0 x1 x2 x3 s1)) else (f_X12_set_57  0 x1 x2 x3 σ) := by
  unfold f_X12_set_42
  simp only [sm_n1, sm_r0_1]
theorem e_X12_set_30 (x1 : Int32) (x2 : Int32) (x3 : Int32) (σ : wg_M) : f_X12_set_30 0 x1 x2 x3 σ = if x1 = (1 : Int32) then (wg_sa 10 σ 5 x2 x3 (fun s1 => f_X12_set_42  0 x1 x2 x3 s1)) else (f_X12_set_42  0 x1 x2 x3 σ) := by
  unfold f_X12_set_30
  simp only [sm_n5, sm_r0_10]
theorem e_X12_set (x1 : Int32) (x2 : Int32) (x3 : Int32) (σ : wg_M) : f_X12_set 0 x1 x2 x3 σ = wg_st σ 0 0 (0 : Int32) (fun s1 => wg_bd (f_X12_canSet 0 x1 x2 x3 s1) (fun v2 s3 => if v2 = 0 then (some ((0 : Int32), s3)) else (if x1 = 0 then (wg_sa 295 s3 1 ((3 : Int32) + x2) x3 (fun s4 => f_X12_set_30  0 x1 x2 x3 s4)) else (f_X12_set_30  0 x1 x2 x3 s3)))) := by
  unfold f_X12_set
  simp only [sm_n1, sm_r0_1]
theorem e_X12_types_3 (n : Nat) (x1 : Int32) (x2 : Int32) (σ : wg_M) : f_X12_types_3 (n + 1) 0 x1 x2 σ = if x2 < 0 then (some (0, σ)) else (wg_sa 400 σ 9 (σ 0 15) ((x1 >>> (x2 &&& 31)) &&& (255 : Int32)) (fun s1 => wg_st s1 0 15 ((s1 0 15) + (1 : Int32)) (fun s2 => wg_let (x2 + (-8 : Int32)) (fun v3 => f_X12_types_3  n 0 x1 v3 s2)))) := by
  rw [f_X12_types_3]
  simp only [sm_n9, sm_r0_14]
theorem e_X12_types (x1 : Int32) (σ : wg_M) : f_X12_types 0 x1 σ = f_X12_types_3  wg_N 0 x1 (24 : Int32) σ := rfl
theorem e_X12_feed (x1 : Int32) (x2 : Int32) (x3 : Int32) (x4 : Int32) (x5 : Int32) (σ : wg_M) : f_X12_feed 0 x1 x2 x3 x4 x5 σ = wg_st σ 0 0 (0 : Int32) (fun s1 => if (s1 0 15) ≤ (380 : Int32) then (wg_bd (f_X12_types 0 x1 s1) (fun _ s2 => wg_bd (f_X12_types 0 x2 s2) (fun _ s3 => wg_bd (f_X12_types 0 x3 s3) (fun _ s4 => wg_bd (f_X12_types 0 x4 s4) (fun _ s5 => wg_bd (f_X12_types 0 x5 s5) (fun _ s6 => some (s6 0 15, s6))))))) else (some ((-1 : Int32), s1))) := rfl
theorem e_X12_end (x1 : Int32) (σ : wg_M) : f_X12_end 0 x1 σ = wg_st σ 0 0 (0 : Int32) (fun s1 => wg_bd (f_X12_isIn 0 x1 (0 : Int32) (s1 0 15) s1) (fun v2 s3 => if v2 = 0 then (some ((0 : Int32), s3)) else (wg_st s3 0 15 x1 (fun s4 => some ((1 : Int32), s4))))) := rfl
theorem e_X12_raw (x1 : Int32) (σ : wg_M) : f_X12_raw 0 x1 σ = if (σ 0 15) ≤ x1 then (some ((-1 : Int32), σ)) else (wg_ga 400 (σ 9) x1 (fun v1 => some (v1, σ))) := by
  unfold f_X12_raw
  simp only [sm_n9, sm_r0_14]
theorem e_X12_isLetter_24 (σ : wg_M) : f_X12_isLetter_24 σ = some ((1 : Int32), σ) := rfl
theorem e_X12_isLetter (x1 : Int32) (σ : wg_M) : f_X12_isLetter 0 x1 σ = wg_bd (f_X12_isIn 0 x1 (97 : Int32) (122 : Int32) σ) (fun v1 s2 => if v1 = 0 then (wg_bd (f_X12_isIn 0 x1 (65 : Int32) (90 : Int32) s2) (fun v3 s4 => if v3 = 0 then (some ((0 : Int32), s4)) else (f_X12_isLetter_24   s4))) else (f_X12_isLetter_24   s2)) := rfl
theorem e_X12_isDigit (x1 : Int32) (σ : wg_M) : f_X12_isDigit 0 x1 σ = wg_bd (f_X12_isIn 0 x1 (48 : Int32) (57 : Int32) σ) (fun v1 s2 => wg_bz v1 (some (v1, s2))) := rfl
theorem e_X12_isMarkSign_60 (σ : wg_M) : f_X12_isMarkSign_60 σ = some ((1 : Int32), σ) := rfl
theorem e_X12_isMarkSign (x1 : Int32) (σ : wg_M) : f_X12_isMarkSign 0 x1 σ = if x1 = (59 : Int32) then (f_X12_isMarkSign_60   σ) else (if x1 = (43 : Int32) then (f_X12_isMarkSign_60   σ) else (if x1 = (45 : Int32) then (f_X12_isMarkSign_60   σ) else (if x1 = (42 : Int32) then (f_X12_isMarkSign_60   σ) else (if x1 = (47 : Int32) then (f_X12_isMarkSign_60   σ) else (if x1 = (40 : Int32) then (f_X12_isMarkSign_60   σ) else (if x1 = (41 : Int32) then (f_X12_isMarkSign_60   σ) else (if x1 = (60 : Int32) then (f_X12_isMarkSign_60   σ) else (if x1 = (61 : Int32) then (f_X12_isMarkSign_60   σ) else (if x1 = (62 : Int32) then (f_X12_isMarkSign_60   σ) else (some ((0 : Int32), σ))))))))))) := rfl
theorem e_X12_wordAt_94 (k5 : Nat → Int32 → Int32 → Int32 → Int32 → wg_M → Option (Int32 × wg_M)) (n : Nat) (x1 : Int32) (x2 : Int32) (x3 : Int32) (x4 : Int32) (σ : wg_M) : f_X12_wordAt_94 k5 (n + 1) 0 x1 x2 x3 x4 σ = wg_ga 129 (σ 10) x4 (fun v1 => if v1 = (32 : Int32) then (k5 0 x1 x2 x3 x4 σ) else (wg_let (x4 + (1 : Int32)) (fun v2 => f_X12_wordAt_94 k5 n 0 x1 x2 x3 v2 σ))) := by
  rw [f_X12_wordAt_94]
  simp only [sm_n10, sm_r0_20]
theorem e_X12_wordAt_88 (k5 : Nat → Int32 → Int32 → Int32 → Int32 → wg_M → Option (Int32 × wg_M)) (x1 : Int32) (x2 : Int32) (x3 : Int32) (x4 : Int32) (σ : wg_M) : f_X12_wordAt_88 k5 0 x1 x2 x3 x4 σ = wg_let (x4 + (1 : Int32)) (fun v1 => f_X12_wordAt_94 k5 wg_N 0 x1 x2 x3 v1 σ) := rfl
theorem e_X12_wordAt_61 (k5 : Nat → Int32 → Int32 → Int32 → Int32 → wg_M → Option (Int32 × wg_M)) (x1 : Int32) (x2 : Int32) (x3 : Int32) (x4 : Int32) (x5 : Int32) (σ : wg_M) : f_X12_wordAt_61 k5 0 x1 x2 x3 x4 x5 σ = if (x1 + x5) = x2 then (wg_ga 129 (σ 10) ((x4 + (1 : Int32)) + x5) (fun v1 => if v1 = (32 : Int32) then (some (x3, σ)) else (f_X12_wordAt_88 k5 0 x1 x2 x3 x4 σ))) else (f_X12_wordAt_88 k5 0 x1 x2 x3 x4 σ) := by
  unfold f_X12_wordAt_61
  simp only [sm_n10, sm_r0_20]
theorem e_X12_wordAt_20 (k5 : Nat → Int32 → Int32 → Int32 → Int32 → wg_M → Option (Int32 × wg_M)) (n : Nat) (x1 : Int32) (x2 : Int32) (x3 : Int32) (x4 : Int32) (x5 : Int32) (σ : wg_M) : f_X12_wordAt_20 k5 (n + 1) 0 x1 x2 x3 x4 x5 σ = if x2 ≤ (x1 + x5) then (f_X12_wordAt_61 k5 0 x1 x2 x3 x4 x5 σ) else (wg_ga 129 (σ 10) ((x4 + (1 : Int32)) + x5) (fun v1 => wg_ga 400 (σ 9) (x1 + x5) (fun v2 => if v1 = v2 then (wg_let (x5 + (1 : Int32)) (fun v3 => f_X12_wordAt_20 k5 n 0 x1 x2 x3 x4 v3 σ)) else (f_X12_wordAt_61 k5 0 x1 x2 x3 x4 x5 σ)))) := by
  rw [f_X12_wordAt_20]
  simp only [sm_n9, sm_n10, sm_r0_14, sm_r0_20]
theorem e_X12_wordAt_5 (n : Nat) (x1 : Int32) (x2 : Int32) (x3 : Int32) (x4 : Int32) (σ : wg_M) : f_X12_wordAt_5 (n + 1) 0 x1 x2 x3 x4 σ = if (128 : Int32) ≤ x4 then (some ((-1 : Int32), σ)) else (wg_let (x3 + (1 : Int32)) (fun v1 => f_X12_wordAt_20 (f_X12_wordAt_5  n) wg_N 0 x1 x2 v1 x4 (0 : Int32) σ)) := by
  rw [f_X12_wordAt_5]
theorem e_X12_wordAt (x1 : Int32) (x2 : Int32) (σ : wg_M) : f_X12_wordAt 0 x1 x2 σ = f_X12_wordAt_5  wg_N 0 x1 x2 (-1 : Int32) (0 : Int32) σ := rfl
theorem e_X12_reads_26 (k0 : Nat → wg_M → Option (Int32 × wg_M)) (σ : wg_M) : f_X12_reads_26 k0 0 σ = wg_st σ 0 16 ((σ 0 16) + (1 : Int32)) (fun s1 => k0 0 s1) := rfl
theorem e_X12_reads_223 (k171 : Nat → wg_M → Option (Int32 × wg_M)) (t0 : Int32) (t1 : Nat) (σ : wg_M) : f_X12_reads_223 k171 0 t0 t1 σ = wg_st σ t1 19 t0 (fun s1 => wg_st s1 0 16 ((s1 0 16) + (1 : Int32)) (fun s2 => k171 0 s2)) := rfl
theorem e_X12_reads_171 (n : Nat) (σ : wg_M) : f_X12_reads_171 (n + 1) 0 σ = wg_bd (f_X12_raw 0 (σ 0 16) σ) (fun v1 s2 => wg_bd (f_X12_isDigit 0 v1 s2) (fun v3 s4 => if v3 = 0 then (if (5 : Int32) ≤ ((s4 0 16) - (s4 0 17)) then (some (0, s4)) else (wg_st s4 0 18 (3 : Int32) (fun s5 => some (0, s5)))) else (if (10000 : Int32) ≤ (s4 0 19) then (f_X12_reads_223 (f_X12_reads_171  n) 0 (s4 0 19) 0 s4) else (wg_bd (f_X12_raw 0 (s4 0 16) s4) (fun v6 s7 => f_X12_reads_223 (f_X12_reads_171  n) 0 ((((10 : Int32) * (s4 0 19)) + v6) - (48 : Int32)) 0 s7))))) := by
  rw [f_X12_reads_171]
theorem e_X12_reads_95 (n : Nat) (σ : wg_M) : f_X12_reads_95 (n + 1) 0 σ = wg_bd (f_X12_raw 0 (σ 0 16) σ) (fun v1 s2 => wg_bd (f_X12_isLetter 0 v1 s2) (fun v3 s4 => if v3 = 0 then (wg_bd (f_X12_wordAt 0 (s4 0 17) (s4 0 16) s4) (fun v5 s6 => wg_st s6 0 19 v5 (fun s7 => if (s7 0 19) = (-1 : Int32) then (some (0, s7)) else (wg_st s7 0 18 (2 : Int32) (fun s8 => some (0, s8)))))) else (wg_st s4 0 16 ((s4 0 16) + (1 : Int32)) (fun s9 => f_X12_reads_95  n 0 s9)))) := by
  rw [f_X12_reads_95]
theorem e_X12_reads_0 (n : Nat) (σ : wg_M) : f_X12_reads_0 (n + 1) 0 σ = wg_bd (f_X12_raw 0 (σ 0 16) σ) (fun v1 s2 => if v1 = (32 : Int32) then (f_X12_reads_26 (f_X12_reads_0  n) 0 s2) else (wg_bd (f_X12_raw 0 (s2 0 16) s2) (fun v3 s4 => if v3 = (10 : Int32) then (f_X12_reads_26 (f_X12_reads_0  n) 0 s4) else (wg_st s4 0 17 (s4 0 16) (fun s5 => wg_st s5 0 18 (1 : Int32) (fun s6 => wg_bd (f_X12_raw 0 (s6 0 16) s6) (fun v7 s8 => if v7 = (-1 : Int32) then (wg_st s8 0 18 (0 : Int32) (fun s19 => some (0, s19))) else (wg_st s8 0 16 ((s8 0 16) + (1 : Int32)) (fun s9 => wg_st s9 0 19 v7 (fun s10 => wg_bd (f_X12_isLetter 0 v7 s10) (fun v11 s12 => if v11 = 0 then (wg_bd (f_X12_isDigit 0 v7 s12) (fun v13 s14 => if v13 = 0 then (wg_bd (f_X12_isMarkSign 0 v7 s14) (fun v15 s16 => if v15 = 0 then (some (0, s16)) else (wg_st s16 0 18 (4 : Int32) (fun s17 => some (0, s17))))) else (wg_st s14 0 19 (v7 - (48 : Int32)) (fun s18 => f_X12_reads_171  wg_N 0 s18)))) else (f_X12_reads_95  wg_N 0 s12)))))))))))) := by
  rw [f_X12_reads_0]
theorem e_X12_reads (σ : wg_M) : f_X12_reads 0 σ = f_X12_reads_0  wg_N 0 σ := rfl
theorem e_X12_errs (x1 : Int32) (σ : wg_M) : f_X12_errs 0 x1 σ = wg_st σ 0 33 x1 (fun s1 => wg_st s1 0 34 (s1 0 17) (fun s2 => some ((-1 : Int32), s2))) := rfl
theorem e_X12_isWord (x1 : Int32) (σ : wg_M) : f_X12_isWord 0 x1 σ = if (σ 0 18) = (2 : Int32) then (if (σ 0 19) = x1 then (some ((1 : Int32), σ)) else (some ((0 : Int32), σ))) else (some ((0 : Int32), σ)) := rfl
theorem e_X12_isSign (x1 : Int32) (σ : wg_M) : f_X12_isSign 0 x1 σ = if (σ 0 18) = (4 : Int32) then (if (σ 0 19) = x1 then (some ((1 : Int32), σ)) else (some ((0 : Int32), σ))) else (some ((0 : Int32), σ)) := rfl
theorem e_X12_emits (x1 : Int32) (x2 : Int32) (σ : wg_M) : f_X12_emits 0 x1 x2 σ = wg_sa 1200 σ 16 ((800 : Int32) + (σ 0 29)) x1 (fun s1 => wg_sa 1200 s1 17 ((800 : Int32) + (s1 0 29)) x2 (fun s2 => wg_st s2 0 29 ((s2 0 29) + (1 : Int32)) (fun s3 => some (0, s3)))) := by
  unfold f_X12_emits
  simp only [sm_n16, sm_n17, sm_r0_26, sm_r0_27]
theorem e_X12_canAsk (x1 : Int32) (σ : wg_M) : f_X12_canAsk 0 x1 σ = wg_bd (f_X12_isIn 0 x1 (7 : Int32) (16 : Int32) σ) (fun v1 s2 => wg_bz v1 (some (v1, s2))) := rfl
theorem e_X12_readUnit_71 (t0 : Int32) (t1 : Int32) (t2 : Nat) (σ : wg_M) : f_X12_readUnit_71 0 t0 t1 t2 σ = wg_bd (f_X12_emits t2 t1 t0 σ) (fun _ s1 => wg_bd (f_X12_reads 0 s1) (fun _ s2 => some ((0 : Int32), s2))) := rfl
theorem e_X12_readUnit_53 (x1 : Int32) (t0 : Int32) (t1 : Nat) (σ : wg_M) : f_X12_readUnit_53 0 x1 t0 t1 σ = if x1 = 0 then (f_X12_readUnit_71  0 (σ 0 19) t0 t1 σ) else (f_X12_readUnit_71  0 ((σ 0 19) - (7 : Int32)) t0 t1 σ) := rfl
theorem e_X12_readUnit_43 (x1 : Int32) (σ : wg_M) : f_X12_readUnit_43 0 x1 σ = if x1 = 0 then (f_X12_readUnit_53  0 x1 (0 : Int32) 0 σ) else (f_X12_readUnit_53  0 x1 (1 : Int32) 0 σ) := rfl
theorem e_X12_readUnit_24 (t0 : Int32) (σ : wg_M) : f_X12_readUnit_24 0 t0 σ = if t0 = 0 then (if (σ 0 18) = (3 : Int32) then (f_X12_readUnit_43  0 t0 σ) else (wg_bd (f_X12_errs 0 (1 : Int32) σ) (fun v1 s2 => some (v1, s2)))) else (f_X12_readUnit_43  0 t0 σ) := rfl
theorem e_X12_readUnit_23 (σ : wg_M) : f_X12_readUnit_23 0 σ = f_X12_readUnit_24  0 (0 : Int32) σ := rfl
theorem e_X12_readUnit (σ : wg_M) : f_X12_readUnit 0 σ = if (σ 0 18) = (2 : Int32) then (wg_bd (f_X12_canAsk 0 (σ 0 19) σ) (fun v1 s2 => if v1 = 0 then (f_X12_readUnit_23  0 s2) else (f_X12_readUnit_24  0 (1 : Int32) s2))) else (f_X12_readUnit_23  0 σ) := rfl
theorem e_X12_readProduct_94 (k10 : Nat → wg_M → Option (Int32 × wg_M)) (t0 : Int32) (t1 : Nat) (σ : wg_M) : f_X12_readProduct_94 k10 0 t0 t1 σ = wg_bd (f_X12_emits t1 t0 (0 : Int32) σ) (fun _ s1 => k10 0 s1) := rfl
theorem e_X12_readProduct_74 (k10 : Nat → wg_M → Option (Int32 × wg_M)) (x1 : Int32) (σ : wg_M) : f_X12_readProduct_74 k10 0 x1 σ = wg_bd (f_X12_readUnit 0 σ) (fun v1 s2 => if v1 = (-1 : Int32) then (some ((-1 : Int32), s2)) else (if x1 = 0 then (f_X12_readProduct_94 k10 0 (5 : Int32) 0 s2) else (f_X12_readProduct_94 k10 0 (4 : Int32) 0 s2))) := rfl
theorem e_X12_readProduct_57 (k10 : Nat → wg_M → Option (Int32 × wg_M)) (x1 : Int32) (σ : wg_M) : f_X12_readProduct_57 k10 0 x1 σ = if x1 = 0 then (if (σ 0 19) = 0 then (wg_bd (f_X12_errs 0 (2 : Int32) σ) (fun v1 s2 => some (v1, s2))) else (f_X12_readProduct_74 k10 0 x1 σ)) else (f_X12_readProduct_74 k10 0 x1 σ) := rfl
theorem e_X12_readProduct_28 (k10 : Nat → wg_M → Option (Int32 × wg_M)) (σ : wg_M) : f_X12_readProduct_28 k10 0 σ = wg_bd (f_X12_isSign 0 (42 : Int32) σ) (fun v1 s2 => wg_bd (f_X12_reads 0 s2) (fun _ s3 => if v1 = 0 then (if (s3 0 18) = (3 : Int32) then (f_X12_readProduct_57 k10 0 v1 s3) else (wg_bd (f_X12_errs 0 (1 : Int32) s3) (fun v4 s5 => some (v4, s5)))) else (f_X12_readProduct_57 k10 0 v1 s3))) := rfl
theorem e_X12_readProduct_10 (n : Nat) (σ : wg_M) : f_X12_readProduct_10 (n + 1) 0 σ = wg_bd (f_X12_isSign 0 (42 : Int32) σ) (fun v1 s2 => if v1 = 0 then (wg_bd (f_X12_isSign 0 (47 : Int32) s2) (fun v3 s4 => if v3 = 0 then (some ((0 : Int32), s4)) else (f_X12_readProduct_28 (f_X12_readProduct_10  n) 0 s4))) else (f_X12_readProduct_28 (f_X12_readProduct_10  n) 0 s2)) := by
  rw [f_X12_readProduct_10]
theorem e_X12_readProduct (σ : wg_M) : f_X12_readProduct 0 σ = wg_bd (f_X12_readUnit 0 σ) (fun v1 s2 => if v1 = (-1 : Int32) then (some ((-1 : Int32), s2)) else (f_X12_readProduct_10  wg_N 0 s2)) := rfl
theorem e_X12_readSum_42 (k10 : Nat → wg_M → Option (Int32 × wg_M)) (t0 : Int32) (σ : wg_M) : f_X12_readSum_42 k10 0 t0 σ = wg_bd (f_X12_reads 0 σ) (fun _ s1 => wg_bd (f_X12_readProduct 0 s1) (fun v2 s3 => if v2 = (-1 : Int32) then (some ((-1 : Int32), s3)) else (wg_bd (f_X12_emits 0 t0 (0 : Int32) s3) (fun _ s4 => k10 0 s4)))) := rfl
theorem e_X12_readSum_28 (k10 : Nat → wg_M → Option (Int32 × wg_M)) (σ : wg_M) : f_X12_readSum_28 k10 0 σ = if (σ 0 19) = (43 : Int32) then (f_X12_readSum_42 k10 0 (2 : Int32) σ) else (f_X12_readSum_42 k10 0 (3 : Int32) σ) := rfl
theorem e_X12_readSum_10 (n : Nat) (σ : wg_M) : f_X12_readSum_10 (n + 1) 0 σ = wg_bd (f_X12_isSign 0 (43 : Int32) σ) (fun v1 s2 => if v1 = 0 then (wg_bd (f_X12_isSign 0 (45 : Int32) s2) (fun v3 s4 => if v3 = 0 then (some ((0 : Int32), s4)) else (f_X12_readSum_28 (f_X12_readSum_10  n) 0 s4))) else (f_X12_readSum_28 (f_X12_readSum_10  n) 0 s2)) := by
  rw [f_X12_readSum_10]
theorem e_X12_readSum (σ : wg_M) : f_X12_readSum 0 σ = wg_bd (f_X12_readProduct 0 σ) (fun v1 s2 => if v1 = (-1 : Int32) then (some ((-1 : Int32), s2)) else (f_X12_readSum_10  wg_N 0 s2)) := rfl
theorem e_X12_readCompared_73 (t0 : Int32) (σ : wg_M) : f_X12_readCompared_73 0 t0 σ = wg_bd (f_X12_reads 0 σ) (fun _ s1 => wg_bd (f_X12_readSum 0 s1) (fun v2 s3 => if v2 = (-1 : Int32) then (some ((-1 : Int32), s3)) else (wg_bd (f_X12_emits 0 t0 (0 : Int32) s3) (fun _ s4 => some ((0 : Int32), s4))))) := rfl
theorem e_X12_readCompared_43 (σ : wg_M) : f_X12_readCompared_43 0 σ = if (σ 0 19) = (60 : Int32) then (f_X12_readCompared_73  0 (6 : Int32) σ) else (if (σ 0 19) = (61 : Int32) then (f_X12_readCompared_73  0 (7 : Int32) σ) else (f_X12_readCompared_73  0 (8 : Int32) σ)) := rfl
theorem e_X12_readCompared (σ : wg_M) : f_X12_readCompared 0 σ = wg_bd (f_X12_readSum 0 σ) (fun v1 s2 => if v1 = (-1 : Int32) then (some ((-1 : Int32), s2)) else (wg_bd (f_X12_isSign 0 (60 : Int32) s2) (fun v3 s4 => if v3 = 0 then (wg_bd (f_X12_isSign 0 (61 : Int32) s4) (fun v5 s6 => if v5 = 0 then (wg_bd (f_X12_isSign 0 (62 : Int32) s6) (fun v7 s8 => if v7 = 0 then (wg_bd (f_X12_errs 0 (1 : Int32) s8) (fun v9 s10 => some (v9, s10))) else (f_X12_readCompared_43  0 s8))) else (f_X12_readCompared_43  0 s6))) else (f_X12_readCompared_43  0 s4)))) := rfl
theorem e_X12_waits (x1 : Int32) (σ : wg_M) : f_X12_waits 0 x1 σ = wg_sa 40 σ 18 (σ 0 32) x1 (fun s1 => wg_st s1 0 32 ((s1 0 32) + (1 : Int32)) (fun s2 => some (0, s2))) := by
  unfold f_X12_waits
  simp only [sm_n18, sm_r0_31]
theorem e_X12_settles_0 (n : Nat) (x1 : Int32) (σ : wg_M) : f_X12_settles_0 (n + 1) 0 x1 σ = if (σ 0 32) ≤ 0 then (some (0, σ)) else (wg_ga 40 (σ 18) ((σ 0 32) - (1 : Int32)) (fun v1 => if v1 = x1 then (wg_st σ 0 32 ((σ 0 32) - (1 : Int32)) (fun s2 => wg_bd (f_X12_emits 0 x1 (0 : Int32) s2) (fun _ s3 => if x1 = (9 : Int32) then (wg_st s3 0 30 ((s3 0 30) - (1 : Int32)) (fun s4 => f_X12_settles_0  n 0 x1 s4)) else (f_X12_settles_0  n 0 x1 s3)))) else (some (0, σ)))) := by
  rw [f_X12_settles_0]
  simp only [sm_n18, sm_r0_31]
theorem e_X12_settles (x1 : Int32) (σ : wg_M) : f_X12_settles 0 x1 σ = f_X12_settles_0  wg_N 0 x1 σ := rfl
theorem e_X12_readAny_78 (k9 : Nat → Int32 → Int32 → wg_M → Option (Int32 × wg_M)) (x1 : Int32) (x2 : Int32) (t0 : Int32) (t1 : Nat) (σ : wg_M) : f_X12_readAny_78 k9 0 x1 x2 t0 t1 σ = wg_bd (f_X12_waits t1 t0 σ) (fun _ s1 => wg_bd (f_X12_reads 0 s1) (fun _ s2 => k9 0 x1 x2 s2)) := rfl
theorem e_X12_readAny_66 (k9 : Nat → Int32 → Int32 → wg_M → Option (Int32 × wg_M)) (x1 : Int32) (x2 : Int32) (x3 : Int32) (σ : wg_M) : f_X12_readAny_66 k9 0 x1 x2 x3 σ = if x3 = 0 then (f_X12_readAny_78 k9 0 x1 x2 (12 : Int32) 0 σ) else (f_X12_readAny_78 k9 0 x1 x2 (9 : Int32) 0 σ) := rfl
theorem e_X12_readAny_33 (k9 : Nat → Int32 → Int32 → wg_M → Option (Int32 × wg_M)) (x1 : Int32) (x2 : Int32) (x3 : Int32) (σ : wg_M) : f_X12_readAny_33 k9 0 x1 x2 x3 σ = if (σ 0 30) = (8 : Int32) then (wg_bd (f_X12_errs 0 (3 : Int32) σ) (fun v3 s4 => some (v3, s4))) else (wg_st σ 0 30 ((σ 0 30) + (1 : Int32)) (fun s1 => if x3 = 0 then (wg_let (x1 + (1 : Int32)) (fun v2 => f_X12_readAny_66 k9 0 v2 x2 x3 s1)) else (f_X12_readAny_66 k9 0 x1 x2 x3 s1))) := rfl
theorem e_X12_readAny_9 (n : Nat) (x1 : Int32) (x2 : Int32) (σ : wg_M) : f_X12_readAny_9 (n + 1) 0 x1 x2 σ = if x2 = 0 then (wg_bd (f_X12_isWord 0 (5 : Int32) σ) (fun v1 s2 => if v1 = 0 then (wg_bd (f_X12_isWord 0 (4 : Int32) s2) (fun v3 s4 => if v3 = 0 then (wg_bd (f_X12_settles 0 (10 : Int32) s4) (fun _ s5 => wg_bd (f_X12_settles 0 (11 : Int32) s5) (fun _ s6 => if x1 = 0 then (some ((0 : Int32), s6)) else (wg_bd (f_X12_isSign 0 (41 : Int32) s6) (fun v7 s8 => if v7 = 0 then (wg_bd (f_X12_errs 0 (1 : Int32) s8) (fun v14 s15 => some (v14, s15))) else (wg_st s8 0 32 ((s8 0 32) - (1 : Int32)) (fun s9 => wg_let (x1 - (1 : Int32)) (fun v10 => wg_st s9 0 30 ((s9 0 30) - (1 : Int32)) (fun s11 => wg_bd (f_X12_settles 0 (9 : Int32) s11) (fun _ s12 => wg_bd (f_X12_reads 0 s12) (fun _ s13 => f_X12_readAny_9  n 0 v10 x2 s13))))))))))) else (wg_bd (f_X12_settles 0 (10 : Int32) s4) (fun _ s16 => wg_bd (f_X12_settles 0 (11 : Int32) s16) (fun _ s17 => wg_bd (f_X12_waits 0 (11 : Int32) s17) (fun _ s18 => wg_bd (f_X12_reads 0 s18) (fun _ s19 => f_X12_readAny_9  n 0 x1 (1 : Int32) s19))))))) else (wg_bd (f_X12_settles 0 (10 : Int32) s2) (fun _ s20 => wg_bd (f_X12_waits 0 (10 : Int32) s20) (fun _ s21 => wg_bd (f_X12_reads 0 s21) (fun _ s22 => f_X12_readAny_9  n 0 x1 (1 : Int32) s22)))))) else (wg_bd (f_X12_isWord 0 (6 : Int32) σ) (fun v23 s24 => if v23 = 0 then (wg_bd (f_X12_isSign 0 (40 : Int32) s24) (fun v25 s26 => if v25 = 0 then (wg_bd (f_X12_readCompared 0 s26) (fun v27 s28 => if v27 = (-1 : Int32) then (some ((-1 : Int32), s28)) else (wg_bd (f_X12_settles 0 (9 : Int32) s28) (fun _ s29 => f_X12_readAny_9  n 0 x1 (0 : Int32) s29)))) else (f_X12_readAny_33 (f_X12_readAny_9  n) 0 x1 x2 v23 s26))) else (f_X12_readAny_33 (f_X12_readAny_9  n) 0 x1 x2 v23 s24))) := by
  rw [f_X12_readAny_9]
theorem e_X12_readAny (σ : wg_M) : f_X12_readAny 0 σ = wg_st σ 0 32 (0 : Int32) (fun s1 => f_X12_readAny_9  wg_N 0 (0 : Int32) (1 : Int32) s1) := rfl
theorem e_X12_isLineWord (σ : wg_M) : f_X12_isLineWord 0 σ = if (σ 0 18) = (2 : Int32) then (wg_bd (f_X12_isIn 0 (σ 0 19) (0 : Int32) (2 : Int32) σ) (fun v1 s2 => if v1 = 0 then (some ((0 : Int32), s2)) else (some ((1 : Int32), s2)))) else (some ((0 : Int32), σ)) := rfl
theorem e_X12_readLaw_92 (k2 : Nat → Int32 → wg_M → Option (Int32 × wg_M)) (x1 : Int32) (x2 : Int32) (σ : wg_M) : f_X12_readLaw_92 k2 0 x1 x2 σ = wg_sa 48 σ 15 x2 (σ 0 29) (fun s1 => wg_bd (f_X12_isSign 0 (59 : Int32) s1) (fun v2 s3 => if v2 = 0 then (wg_bd (f_X12_errs 0 (1 : Int32) s3) (fun v6 s7 => some (v6, s7))) else (wg_bd (f_X12_reads 0 s3) (fun _ s4 => wg_let (x1 + (1 : Int32)) (fun v5 => k2 0 v5 s4))))) := by
  unfold f_X12_readLaw_92
  simp only [sm_n15, sm_r0_25]
theorem e_X12_readLaw_2 (n : Nat) (x1 : Int32) (σ : wg_M) : f_X12_readLaw_2 (n + 1) 0 x1 σ = wg_bd (f_X12_isLineWord 0 σ) (fun v1 s2 => if v1 = 0 then (if (s2 0 18) = 0 then (some (x1, s2)) else (wg_bd (f_X12_errs 0 (1 : Int32) s2) (fun v3 s4 => some (v3, s4)))) else (if x1 = (16 : Int32) then (wg_bd (f_X12_errs 0 (3 : Int32) s2) (fun v17 s18 => some (v17, s18))) else (wg_let ((32 : Int32) + x1) (fun v5 => wg_sa 48 s2 12 v5 (s2 0 19) (fun s6 => wg_bd (f_X12_reads 0 s6) (fun _ s7 => wg_sa 48 s7 13 v5 (s7 0 29) (fun s8 => wg_bd (f_X12_readSum 0 s8) (fun v9 s10 => if v9 = (-1 : Int32) then (some ((-1 : Int32), s10)) else (wg_sa 48 s10 14 v5 (s10 0 29) (fun s11 => wg_bd (f_X12_isWord 0 (3 : Int32) s11) (fun v12 s13 => if v12 = 0 then (f_X12_readLaw_92 (f_X12_readLaw_2  n) 0 x1 v5 s13) else (wg_bd (f_X12_reads 0 s13) (fun _ s14 => wg_bd (f_X12_readAny 0 s14) (fun v15 s16 => if v15 = (-1 : Int32) then (some ((-1 : Int32), s16)) else (f_X12_readLaw_92 (f_X12_readLaw_2  n) 0 x1 v5 s16))))))))))))))) := by
  rw [f_X12_readLaw_2]
  simp only [sm_n12, sm_n13, sm_n14, sm_r0_22, sm_r0_23, sm_r0_24]
theorem e_X12_readLaw (σ : wg_M) : f_X12_readLaw 0 σ = f_X12_readLaw_2  wg_N 0 (0 : Int32) σ := rfl
theorem e_X12_takesLaw_107 (n : Nat) (x1 : Int32) (x2 : Int32) (σ : wg_M) : f_X12_takesLaw_107 (n + 1) 0 x1 x2 σ = if (σ 0 29) ≤ x2 then (wg_sa 2 σ 11 (σ 0 28) x1 (fun s1 => some (0, s1))) else (wg_ga 1200 (σ 16) ((800 : Int32) + x2) (fun v2 => wg_sa 1200 σ 16 (((400 : Int32) * (σ 0 28)) + x2) v2 (fun s3 => wg_ga 1200 (s3 17) ((800 : Int32) + x2) (fun v4 => wg_sa 1200 s3 17 (((400 : Int32) * (s3 0 28)) + x2) v4 (fun s5 => wg_let (x2 + (1 : Int32)) (fun v6 => f_X12_takesLaw_107  n 0 x1 v6 s5)))))) := by
  rw [f_X12_takesLaw_107]
  simp only [sm_n11, sm_n16, sm_n17, sm_r0_21, sm_r0_26, sm_r0_27]
theorem e_X12_takesLaw_2 (n : Nat) (x1 : Int32) (x2 : Int32) (σ : wg_M) : f_X12_takesLaw_2 (n + 1) 0 x1 x2 σ = if x1 ≤ x2 then (f_X12_takesLaw_107  wg_N 0 x1 (0 : Int32) σ) else (wg_ga 48 (σ 12) ((32 : Int32) + x2) (fun v1 => wg_sa 48 σ 12 (((16 : Int32) * (σ 0 28)) + x2) v1 (fun s2 => wg_ga 48 (s2 13) ((32 : Int32) + x2) (fun v3 => wg_sa 48 s2 13 (((16 : Int32) * (s2 0 28)) + x2) v3 (fun s4 => wg_ga 48 (s4 14) ((32 : Int32) + x2) (fun v5 => wg_sa 48 s4 14 (((16 : Int32) * (s4 0 28)) + x2) v5 (fun s6 => wg_ga 48 (s6 15) ((32 : Int32) + x2) (fun v7 => wg_sa 48 s6 15 (((16 : Int32) * (s6 0 28)) + x2) v7 (fun s8 => wg_let (x2 + (1 : Int32)) (fun v9 => f_X12_takesLaw_2  n 0 x1 v9 s8)))))))))) := by
  rw [f_X12_takesLaw_2]
  simp only [sm_n12, sm_n13, sm_n14, sm_n15, sm_r0_22, sm_r0_23, sm_r0_24, sm_r0_25]
theorem e_X12_takesLaw (x1 : Int32) (σ : wg_M) : f_X12_takesLaw 0 x1 σ = f_X12_takesLaw_2  wg_N 0 x1 (0 : Int32) σ := rfl
theorem e_X12_readNumber (x1 : Int32) (x2 : Int32) (σ : wg_M) : f_X12_readNumber 0 x1 x2 σ = if (σ 0 18) = (3 : Int32) then (wg_bd (f_X12_isIn 0 (σ 0 19) x1 x2 σ) (fun v1 s2 => if v1 = 0 then (wg_bd (f_X12_errs 0 (2 : Int32) s2) (fun v5 s6 => some (v5, s6))) else (wg_let (s2 0 19) (fun v3 => wg_bd (f_X12_reads 0 s2) (fun _ s4 => some (v3, s4)))))) else (wg_bd (f_X12_errs 0 (1 : Int32) σ) (fun v7 s8 => some (v7, s8))) := rfl
theorem e_X12_readMark (x1 : Int32) (σ : wg_M) : f_X12_readMark 0 x1 σ = wg_bd (f_X12_isSign 0 x1 σ) (fun v1 s2 => if v1 = 0 then (wg_bd (f_X12_errs 0 (1 : Int32) s2) (fun v4 s5 => some (v4, s5))) else (wg_bd (f_X12_reads 0 s2) (fun _ s3 => some ((0 : Int32), s3)))) := rfl
theorem e_X12_readTold (x1 : Int32) (x2 : Int32) (x3 : Int32) (σ : wg_M) : f_X12_readTold 0 x1 x2 x3 σ = wg_bd (f_X12_isWord 0 x1 σ) (fun v1 s2 => if v1 = 0 then (wg_bd (f_X12_errs 0 (1 : Int32) s2) (fun v6 s7 => some (v6, s7))) else (wg_bd (f_X12_reads 0 s2) (fun _ s3 => wg_bd (f_X12_readNumber 0 x2 x3 s3) (fun v4 s5 => some (v4, s5))))) := rfl
theorem e_X12_readDocketLine (x1 : Int32) (σ : wg_M) : f_X12_readDocketLine 0 x1 σ = wg_bd (f_X12_readTold 0 (17 : Int32) (0 : Int32) (999 : Int32) σ) (fun v1 s2 => wg_sa 96 s2 19 x1 v1 (fun s3 => wg_ga 96 (s3 19) x1 (fun v4 => if v4 = (-1 : Int32) then (some ((-1 : Int32), s3)) else (wg_bd (f_X12_readTold 0 (18 : Int32) (0 : Int32) ((s3 0 8) - (1 : Int32)) s3) (fun v5 s6 => wg_sa 96 s6 19 (x1 + (1 : Int32)) v5 (fun s7 => wg_ga 96 (s7 19) (x1 + (1 : Int32)) (fun v8 => if v8 = (-1 : Int32) then (some ((-1 : Int32), s7)) else (wg_bd (f_X12_readTold 0 (19 : Int32) (0 : Int32) ((s7 0 7) - (1 : Int32)) s7) (fun v9 s10 => wg_sa 96 s10 19 (x1 + (2 : Int32)) v9 (fun s11 => wg_ga 96 (s11 19) (x1 + (2 : Int32)) (fun v12 => if v12 = (-1 : Int32) then (some ((-1 : Int32), s11)) else (wg_bd (f_X12_readMark 0 (59 : Int32) s11) (fun v13 s14 => some (v13, s14)))))))))))))) := by
  unfold f_X12_readDocketLine
  simp only [sm_n19, sm_r0_38]
theorem e_X12_readDocket_2 (n : Nat) (x1 : Int32) (σ : wg_M) : f_X12_readDocket_2 (n + 1) 0 x1 σ = wg_bd (f_X12_isWord 0 (17 : Int32) σ) (fun v1 s2 => if v1 = 0 then (if (s2 0 18) = 0 then (some (x1, s2)) else (wg_bd (f_X12_errs 0 (1 : Int32) s2) (fun v3 s4 => some (v3, s4)))) else (if x1 = (16 : Int32) then (wg_bd (f_X12_errs 0 (3 : Int32) s2) (fun v8 s9 => some (v8, s9))) else (wg_bd (f_X12_readDocketLine 0 ((48 : Int32) + ((3 : Int32) * x1)) s2) (fun v5 s6 => if v5 = (-1 : Int32) then (some ((-1 : Int32), s6)) else (wg_let (x1 + (1 : Int32)) (fun v7 => f_X12_readDocket_2  n 0 v7 s6)))))) := by
  rw [f_X12_readDocket_2]
theorem e_X12_readDocket (σ : wg_M) : f_X12_readDocket 0 σ = f_X12_readDocket_2  wg_N 0 (0 : Int32) σ := rfl
theorem e_X12_kindOfLoan (σ : wg_M) : f_X12_kindOfLoan 0 σ = wg_bd (f_X12_isWord 0 (20 : Int32) σ) (fun v1 s2 => if v1 = 0 then (if (s2 0 18) = (2 : Int32) then (wg_bd (f_X12_isIn 0 (s2 0 19) (22 : Int32) (24 : Int32) s2) (fun v3 s4 => if v3 = 0 then (some ((-1 : Int32), s4)) else (some (((1 : Int32) + (s4 0 19)) - (22 : Int32), s4)))) else (some ((-1 : Int32), s2))) else (some ((0 : Int32), s2))) := rfl
theorem e_X12_readLoanMore (x1 : Int32) (σ : wg_M) : f_X12_readLoanMore 0 x1 σ = if x1 = 0 then (wg_bd (f_X12_readTold 0 (21 : Int32) (0 : Int32) ((σ 0 7) - (1 : Int32)) σ) (fun v5 s6 => some (v5, s6))) else (if x1 = (2 : Int32) then (wg_bd (f_X12_readNumber 0 (0 : Int32) (7 : Int32) σ) (fun v3 s4 => some (v3, s4))) else (if x1 = (3 : Int32) then (wg_bd (f_X12_readNumber 0 (1 : Int32) (99 : Int32) σ) (fun v1 s2 => some (v1, s2))) else (some ((0 : Int32), σ)))) := rfl
theorem e_X12_readLoan (x1 : Int32) (σ : wg_M) : f_X12_readLoan 0 x1 σ = wg_bd (f_X12_readTold 0 (17 : Int32) (0 : Int32) (999 : Int32) σ) (fun v1 s2 => wg_sa 128 s2 20 x1 v1 (fun s3 => wg_ga 128 (s3 20) x1 (fun v4 => if v4 = (-1 : Int32) then (some ((-1 : Int32), s3)) else (wg_bd (f_X12_kindOfLoan 0 s3) (fun v5 s6 => if v5 = (-1 : Int32) then (wg_bd (f_X12_errs 0 (1 : Int32) s6) (fun v19 s20 => some (v19, s20))) else (wg_bd (f_X12_reads 0 s6) (fun _ s7 => wg_sa 128 s7 20 (x1 + (1 : Int32)) v5 (fun s8 => wg_bd (f_X12_readNumber 0 (0 : Int32) ((s8 0 6) - (1 : Int32)) s8) (fun v9 s10 => wg_sa 128 s10 20 (x1 + (2 : Int32)) v9 (fun s11 => wg_ga 128 (s11 20) (x1 + (2 : Int32)) (fun v12 => if v12 = (-1 : Int32) then (some ((-1 : Int32), s11)) else (wg_bd (f_X12_readLoanMore 0 v5 s11) (fun v13 s14 => wg_sa 128 s14 20 (x1 + (3 : Int32)) v13 (fun s15 => wg_ga 128 (s15 20) (x1 + (3 : Int32)) (fun v16 => if v16 = (-1 : Int32) then (some ((-1 : Int32), s15)) else (wg_bd (f_X12_readMark 0 (59 : Int32) s15) (fun v17 s18 => some (v17, s18)))))))))))))))))) := by
  unfold f_X12_readLoan
  simp only [sm_n20, sm_r0_40]
theorem e_X12_readLoans_2 (n : Nat) (x1 : Int32) (σ : wg_M) : f_X12_readLoans_2 (n + 1) 0 x1 σ = wg_bd (f_X12_isWord 0 (17 : Int32) σ) (fun v1 s2 => if v1 = 0 then (if (s2 0 18) = 0 then (some (x1, s2)) else (wg_bd (f_X12_errs 0 (1 : Int32) s2) (fun v3 s4 => some (v3, s4)))) else (if x1 = (16 : Int32) then (wg_bd (f_X12_errs 0 (3 : Int32) s2) (fun v8 s9 => some (v8, s9))) else (wg_bd (f_X12_readLoan 0 ((64 : Int32) + ((4 : Int32) * x1)) s2) (fun v5 s6 => if v5 = (-1 : Int32) then (some ((-1 : Int32), s6)) else (wg_let (x1 + (1 : Int32)) (fun v7 => f_X12_readLoans_2  n 0 v7 s6)))))) := by
  rw [f_X12_readLoans_2]
theorem e_X12_readLoans (σ : wg_M) : f_X12_readLoans 0 σ = f_X12_readLoans_2  wg_N 0 (0 : Int32) σ := rfl
theorem e_X12_readKinLine_105 (σ : wg_M) : f_X12_readKinLine_105 0 σ = wg_bd (f_X12_readMark 0 (59 : Int32) σ) (fun v1 s2 => some (v1, s2)) := rfl
theorem e_X12_readKinLine_62 (x1 : Int32) (σ : wg_M) : f_X12_readKinLine_62 0 x1 σ = wg_bd (f_X12_readNumber 0 (0 : Int32) ((σ 0 6) - (1 : Int32)) σ) (fun v1 s2 => if v1 = (-1 : Int32) then (some ((-1 : Int32), s2)) else (wg_ga 16 (s2 21) ((8 : Int32) + x1) (fun v3 => if v3 = 0 then (wg_sa 16 s2 21 ((8 : Int32) + x1) (v1 + (1 : Int32)) (fun s4 => f_X12_readKinLine_105  0 s4)) else (f_X12_readKinLine_105  0 s2)))) := by
  unfold f_X12_readKinLine_62
  simp only [sm_n21, sm_r0_42]
theorem e_X12_readKinLine (σ : wg_M) : f_X12_readKinLine 0 σ = wg_bd (f_X12_readTold 0 (20 : Int32) (0 : Int32) ((σ 0 6) - (1 : Int32)) σ) (fun v1 s2 => if v1 = (-1 : Int32) then (some ((-1 : Int32), s2)) else (wg_bd (f_X12_isWord 0 (25 : Int32) s2) (fun v3 s4 => if v3 = 0 then (wg_bd (f_X12_errs 0 (1 : Int32) s4) (fun v8 s9 => some (v8, s9))) else (wg_bd (f_X12_reads 0 s4) (fun _ s5 => if (s5 0 18) = (3 : Int32) then (if (s5 0 19) = v1 then (wg_bd (f_X12_errs 0 (2 : Int32) s5) (fun v6 s7 => some (v6, s7))) else (f_X12_readKinLine_62  0 v1 s5)) else (f_X12_readKinLine_62  0 v1 s5)))))) := rfl
theorem e_X12_readKin_26 (n : Nat) (x1 : Int32) (σ : wg_M) : f_X12_readKin_26 (n + 1) 0 x1 σ = wg_bd (f_X12_isWord 0 (20 : Int32) σ) (fun v1 s2 => if v1 = 0 then (if (s2 0 18) = 0 then (some (x1, s2)) else (wg_bd (f_X12_errs 0 (1 : Int32) s2) (fun v3 s4 => some (v3, s4)))) else (if x1 = (16 : Int32) then (wg_bd (f_X12_errs 0 (3 : Int32) s2) (fun v8 s9 => some (v8, s9))) else (wg_bd (f_X12_readKinLine 0 s2) (fun v5 s6 => if v5 = (-1 : Int32) then (some ((-1 : Int32), s6)) else (wg_let (x1 + (1 : Int32)) (fun v7 => f_X12_readKin_26  n 0 v7 s6)))))) := by
  rw [f_X12_readKin_26]
theorem e_X12_readKin_2 (n : Nat) (x1 : Int32) (σ : wg_M) : f_X12_readKin_2 (n + 1) 0 x1 σ = if (8 : Int32) ≤ x1 then (f_X12_readKin_26  wg_N 0 (0 : Int32) σ) else (wg_sa 16 σ 21 ((8 : Int32) + x1) (0 : Int32) (fun s1 => wg_let (x1 + (1 : Int32)) (fun v2 => f_X12_readKin_2  n 0 v2 s1))) := by
  rw [f_X12_readKin_2]
  simp only [sm_n21, sm_r0_42]
theorem e_X12_readKin (σ : wg_M) : f_X12_readKin 0 σ = f_X12_readKin_2  wg_N 0 (0 : Int32) σ := rfl
theorem e_X12_readsText (x1 : Int32) (σ : wg_M) : f_X12_readsText 0 x1 σ = wg_st σ 0 28 (0 : Int32) (fun s1 => wg_bd (f_X12_reads 0 s1) (fun _ s2 => if x1 = (1 : Int32) then (wg_bd (f_X12_readDocket 0 s2) (fun v9 s10 => some (v9, s10))) else (if x1 = (2 : Int32) then (wg_bd (f_X12_readLoans 0 s2) (fun v7 s8 => some (v7, s8))) else (if x1 = (3 : Int32) then (wg_bd (f_X12_readKin 0 s2) (fun v5 s6 => some (v5, s6))) else (wg_bd (f_X12_readLaw 0 s2) (fun v3 s4 => some (v3, s4))))))) := rfl
theorem e_X12_takesOther_118 (σ : wg_M) : f_X12_takesOther_118 0 σ = wg_st σ 0 3 (0 : Int32) (fun s1 => some (0, s1)) := rfl
theorem e_X12_takesOther_85 (n : Nat) (x2 : Int32) (x3 : Int32) (σ : wg_M) : f_X12_takesOther_85 (n + 1) 0 x2 x3 σ = if ((4 : Int32) * x2) ≤ x3 then (wg_st σ 0 39 x2 (fun s1 => f_X12_takesOther_118  0 s1)) else (wg_ga 128 (σ 20) ((64 : Int32) + x3) (fun v2 => wg_sa 128 σ 20 x3 v2 (fun s3 => wg_let (x3 + (1 : Int32)) (fun v4 => f_X12_takesOther_85  n 0 x2 v4 s3)))) := by
  rw [f_X12_takesOther_85]
  simp only [sm_n20, sm_r0_40]
theorem e_X12_takesOther_47 (n : Nat) (x2 : Int32) (x3 : Int32) (σ : wg_M) : f_X12_takesOther_47 (n + 1) 0 x2 x3 σ = if ((3 : Int32) * x2) ≤ x3 then (wg_st σ 0 37 x2 (fun s1 => f_X12_takesOther_118  0 s1)) else (wg_ga 96 (σ 19) ((48 : Int32) + x3) (fun v2 => wg_sa 96 σ 19 x3 v2 (fun s3 => wg_let (x3 + (1 : Int32)) (fun v4 => f_X12_takesOther_47  n 0 x2 v4 s3)))) := by
  rw [f_X12_takesOther_47]
  simp only [sm_n19, sm_r0_38]
theorem e_X12_takesOther_7 (n : Nat) (x2 : Int32) (x3 : Int32) (σ : wg_M) : f_X12_takesOther_7 (n + 1) 0 x2 x3 σ = if (8 : Int32) ≤ x3 then (wg_st σ 0 41 x2 (fun s1 => some (0, s1))) else (wg_ga 16 (σ 21) ((8 : Int32) + x3) (fun v2 => wg_sa 16 σ 21 x3 v2 (fun s3 => wg_let (x3 + (1 : Int32)) (fun v4 => f_X12_takesOther_7  n 0 x2 v4 s3)))) := by
  rw [f_X12_takesOther_7]
  simp only [sm_n21, sm_r0_42]
theorem e_X12_takesOther (x1 : Int32) (x2 : Int32) (σ : wg_M) : f_X12_takesOther 0 x1 x2 σ = if x1 = (3 : Int32) then (f_X12_takesOther_7  wg_N 0 x2 (0 : Int32) σ) else (if x1 = (1 : Int32) then (f_X12_takesOther_47  wg_N 0 x2 (0 : Int32) σ) else (f_X12_takesOther_85  wg_N 0 x2 (0 : Int32) σ)) := rfl
theorem e_X12_text_69 (x1 : Int32) (x2 : Int32) (σ : wg_M) : f_X12_text_69 0 x1 x2 σ = wg_st σ 0 15 (0 : Int32) (fun s1 => if x2 = (-1 : Int32) then (some ((-1 : Int32), s1)) else (if x1 = 0 then (wg_bd (f_X12_takesLaw 0 x2 s1) (fun _ s3 => some (x2, s3))) else (wg_bd (f_X12_takesOther 0 x1 x2 s1) (fun _ s2 => some (x2, s2))))) := rfl
theorem e_X12_text (x1 : Int32) (σ : wg_M) : f_X12_text 0 x1 σ = wg_st σ 0 0 (0 : Int32) (fun s1 => wg_st s1 0 35 (0 : Int32) (fun s2 => wg_st s2 0 36 (-1 : Int32) (fun s3 => wg_st s3 0 16 (0 : Int32) (fun s4 => wg_st s4 0 29 (0 : Int32) (fun s5 => wg_st s5 0 30 (0 : Int32) (fun s6 => wg_bd (f_X12_isIn 0 x1 (0 : Int32) (3 : Int32) s6) (fun v7 s8 => if v7 = 0 then (f_X12_text_69  0 x1 (-1 : Int32) s8) else (wg_bd (f_X12_readsText 0 x1 s8) (fun v9 s10 => if v9 = (-1 : Int32) then (wg_st s10 0 35 (s10 0 33) (fun s11 => wg_st s11 0 36 (s11 0 34) (fun s12 => f_X12_text_69  0 x1 v9 s12))) else (f_X12_text_69  0 x1 v9 s10)))))))))) := rfl
theorem e_X12_fault (x1 : Int32) (σ : wg_M) : f_X12_fault 0 x1 σ = wg_st σ 0 0 (0 : Int32) (fun s1 => if x1 = 0 then (some (s1 0 35, s1)) else (if x1 = (1 : Int32) then (some (s1 0 36, s1)) else (some ((-1 : Int32), s1)))) := rfl
theorem e_X12_twoOf (x1 : Int32) (x2 : Int32) (x3 : Int32) (σ : wg_M) : f_X12_twoOf 0 x1 x2 x3 σ = if x1 = (2 : Int32) then (some (x2 + x3, σ)) else (if x1 = (3 : Int32) then (some (x2 - x3, σ)) else (if x1 = (4 : Int32) then (some (x2 * x3, σ)) else (if x1 = (5 : Int32) then (wg_dv x2 x3 (fun v1 => some (v1, σ))) else (if x1 = (6 : Int32) then (if x3 ≤ x2 then (some ((0 : Int32), σ)) else (some ((1 : Int32), σ))) else (if x1 = (7 : Int32) then (if x2 = x3 then (some ((1 : Int32), σ)) else (some ((0 : Int32), σ))) else (if x1 = (8 : Int32) then (if x2 ≤ x3 then (some ((0 : Int32), σ)) else (some ((1 : Int32), σ))) else (if x1 = (10 : Int32) then (some (x2 * x3, σ)) else (if (x2 + x3) ≤ 0 then (some ((0 : Int32), σ)) else (some ((1 : Int32), σ)))))))))) := rfl
theorem e_X12_runs_170 (k12 : Nat → Int32 → Int32 → Int32 → Int32 → wg_M → Option (Int32 × wg_M)) (x1 : Int32) (x3 : Int32) (x4 : Int32) (x5 : Int32) (σ : wg_M) : f_X12_runs_170 k12 0 x1 x3 x4 x5 σ = wg_let (x5 + (1 : Int32)) (fun v1 => k12 0 x1 x3 x4 v1 σ) := rfl
theorem e_X12_runs_83 (k12 : Nat → Int32 → Int32 → Int32 → Int32 → wg_M → Option (Int32 × wg_M)) (x1 : Int32) (x3 : Int32) (x4 : Int32) (x5 : Int32) (t0 : Int32) (t1 : Int32) (t2 : Nat) (σ : wg_M) : f_X12_runs_83 k12 0 x1 x3 x4 x5 t0 t1 t2 σ = wg_sa (wg_n Sm t2) σ t2 t1 t0 (fun s1 => wg_let (x4 + (1 : Int32)) (fun v2 => f_X12_runs_170 k12 0 x1 x3 v2 x5 s1)) := rfl
theorem e_X12_runs_45 (k12 : Nat → Int32 → Int32 → Int32 → Int32 → wg_M → Option (Int32 × wg_M)) (x1 : Int32) (x3 : Int32) (x4 : Int32) (x5 : Int32) (σ : wg_M) : f_X12_runs_45 k12 0 x1 x3 x4 x5 σ = wg_ga 1200 (σ 16) x5 (fun v1 => if v1 = 0 then (wg_ga 1200 (σ 17) x5 (fun v4 => f_X12_runs_83 k12 0 x1 x3 x4 x5 v4 x4 23 σ)) else (wg_ga 1200 (σ 17) x5 (fun v2 => wg_ga 10 (σ 22) v2 (fun v3 => f_X12_runs_83 k12 0 x1 x3 x4 x5 v3 x4 23 σ)))) := by
  unfold f_X12_runs_45
  simp only [sm_n16, sm_n17, sm_n22, sm_r0_26, sm_r0_27, sm_r0_43, sm_r0_44]
theorem e_X12_runs_12 (n : Nat) (x1 : Int32) (x3 : Int32) (x4 : Int32) (x5 : Int32) (σ : wg_M) : f_X12_runs_12 (n + 1) 0 x1 x3 x4 x5 σ = if (((400 : Int32) * x1) + x3) ≤ x5 then (wg_ga 420 (σ 23) (0 : Int32) (fun v1 => some (v1, σ))) else (wg_ga 1200 (σ 16) x5 (fun v2 => if v2 = 0 then (f_X12_runs_45 (f_X12_runs_12  n) 0 x1 x3 x4 x5 σ) else (wg_ga 1200 (σ 16) x5 (fun v3 => if v3 = (1 : Int32) then (f_X12_runs_45 (f_X12_runs_12  n) 0 x1 x3 x4 x5 σ) else (wg_ga 1200 (σ 16) x5 (fun v4 => if v4 = (9 : Int32) then (wg_ga 420 (σ 23) (x4 - (1 : Int32)) (fun v12 => wg_sa 420 σ 23 (x4 - (1 : Int32)) ((1 : Int32) - v12) (fun s13 => f_X12_runs_170 (f_X12_runs_12  n) 0 x1 x3 x4 x5 s13))) else (wg_let (x4 - (1 : Int32)) (fun v5 => wg_ga 1200 (σ 16) x5 (fun v6 => wg_ga 420 (σ 23) (v5 - (1 : Int32)) (fun v7 => wg_ga 420 (σ 23) v5 (fun v8 => wg_bd (f_X12_twoOf 0 v6 v7 v8 σ) (fun v9 s10 => wg_sa 420 s10 23 (v5 - (1 : Int32)) v9 (fun s11 => f_X12_runs_170 (f_X12_runs_12  n) 0 x1 x3 v5 x5 s11))))))))))))) := by
  rw [f_X12_runs_12]
  simp only [sm_n16, sm_n23, sm_r0_26, sm_r0_44]

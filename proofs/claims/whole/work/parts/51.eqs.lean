def q_X6_readLaw__1 (_u1 : Int32) (s1 : wg_M) : Option (Int32 × wg_M) := f_X6_readLaw_9  wg_N 260 (0 : Int32) s1
theorem e_X6_readLaw__1 (_u1 : Int32) (s1 : wg_M) : q_X6_readLaw__1 _u1 s1 = f_X6_readLaw_9  wg_N 260 (0 : Int32) s1 := rfl
theorem e_X6_readLaw (σ : wg_M) : f_X6_readLaw 260 σ = wg_bd (f_X3_clear 266 σ) q_X6_readLaw__1 := by
  unfold f_X6_readLaw
  simp only [sc_r260_10]
  rfl
def q_X7_forumOf_109__1 (k8 : Nat → Int32 → Int32 → Int32 → Int32 → Int32 → wg_M → Option (Int32 × wg_M)) (x1 : Int32) (x2 : Int32) (x3 : Int32) (x4 : Int32) (σ : wg_M) (v1 : Int32) : Option (Int32 × wg_M) := k8 280 x1 x2 x3 x4 v1 σ
theorem e_X7_forumOf_109__1 (k8 : Nat → Int32 → Int32 → Int32 → Int32 → Int32 → wg_M → Option (Int32 × wg_M)) (x1 : Int32) (x2 : Int32) (x3 : Int32) (x4 : Int32) (σ : wg_M) (v1 : Int32) : q_X7_forumOf_109__1 k8 x1 x2 x3 x4 σ v1 = k8 280 x1 x2 x3 x4 v1 σ := rfl
theorem e_X7_forumOf_109 (k8 : Nat → Int32 → Int32 → Int32 → Int32 → Int32 → wg_M → Option (Int32 × wg_M)) (x1 : Int32) (x2 : Int32) (x3 : Int32) (x4 : Int32) (x5 : Int32) (σ : wg_M) : f_X7_forumOf_109 k8 280 x1 x2 x3 x4 x5 σ = wg_let (x5 + (1 : Int32)) (q_X7_forumOf_109__1 k8 x1 x2 x3 x4 σ) := rfl
theorem e_X7_forumOf_102 (k8 : Nat → Int32 → Int32 → Int32 → Int32 → Int32 → wg_M → Option (Int32 × wg_M)) (x1 : Int32) (x2 : Int32) (x5 : Int32) (x6 : Int32) (σ : wg_M) : f_X7_forumOf_102 k8 280 x1 x2 x5 x6 σ = f_X7_forumOf_109 k8 280 x1 x2 x5 x6 x5 σ := rfl
theorem e_X7_forumOf_90 (k8 : Nat → Int32 → Int32 → Int32 → Int32 → Int32 → wg_M → Option (Int32 × wg_M)) (x1 : Int32) (x2 : Int32) (x3 : Int32) (x4 : Int32) (x5 : Int32) (x6 : Int32) (t0 : Int32) (σ : wg_M) : f_X7_forumOf_90 k8 280 x1 x2 x3 x4 x5 x6 t0 σ = if x3 = (-1 : Int32) then (f_X7_forumOf_102 k8 280 x1 x2 x5 x6 σ) else (if t0 = 0 then (f_X7_forumOf_109 k8 280 x1 x2 x3 x4 x5 σ) else (f_X7_forumOf_102 k8 280 x1 x2 x5 x6 σ)) := rfl
def q_X7_forumOf_8__2 (n : Nat) (x1 : Int32) (x2 : Int32) (x3 : Int32) (x4 : Int32) (x5 : Int32) (v3 : Int32) (s4 : wg_M) : Option (Int32 × wg_M) := if x2 = 0 then (if x4 ≤ v3 then (f_X7_forumOf_90 (f_X7_forumOf_8  n) 280 x1 x2 x3 x4 x5 v3 (0 : Int32) s4) else (f_X7_forumOf_90 (f_X7_forumOf_8  n) 280 x1 x2 x3 x4 x5 v3 (1 : Int32) s4)) else (if v3 ≤ x4 then (f_X7_forumOf_90 (f_X7_forumOf_8  n) 280 x1 x2 x3 x4 x5 v3 (0 : Int32) s4) else (f_X7_forumOf_90 (f_X7_forumOf_8  n) 280 x1 x2 x3 x4 x5 v3 (1 : Int32) s4))
def q_X7_forumOf_8__1 (n : Nat) (x1 : Int32) (x2 : Int32) (x3 : Int32) (x4 : Int32) (x5 : Int32) (v1 : Int32) (s2 : wg_M) : Option (Int32 × wg_M) := if v1 = 0 then (f_X7_forumOf_109 (f_X7_forumOf_8  n) 280 x1 x2 x3 x4 x5 s2) else (wg_bd (f_X1_verdictOf 279 x1 x5 s2) (q_X7_forumOf_8__2 n x1 x2 x3 x4 x5))
theorem e_X7_forumOf_8__1 (n : Nat) (x1 : Int32) (x2 : Int32) (x3 : Int32) (x4 : Int32) (x5 : Int32) (v1 : Int32) (s2 : wg_M) : q_X7_forumOf_8__1 n x1 x2 x3 x4 x5 v1 s2 = if v1 = 0 then (f_X7_forumOf_109 (f_X7_forumOf_8  n) 280 x1 x2 x3 x4 x5 s2) else (wg_bd (f_X1_verdictOf 279 x1 x5 s2) (q_X7_forumOf_8__2 n x1 x2 x3 x4 x5)) := rfl
theorem e_X7_forumOf_8__2 (n : Nat) (x1 : Int32) (x2 : Int32) (x3 : Int32) (x4 : Int32) (x5 : Int32) (v3 : Int32) (s4 : wg_M) : q_X7_forumOf_8__2 n x1 x2 x3 x4 x5 v3 s4 = if x2 = 0 then (if x4 ≤ v3 then (f_X7_forumOf_90 (f_X7_forumOf_8  n) 280 x1 x2 x3 x4 x5 v3 (0 : Int32) s4) else (f_X7_forumOf_90 (f_X7_forumOf_8  n) 280 x1 x2 x3 x4 x5 v3 (1 : Int32) s4)) else (if v3 ≤ x4 then (f_X7_forumOf_90 (f_X7_forumOf_8  n) 280 x1 x2 x3 x4 x5 v3 (0 : Int32) s4) else (f_X7_forumOf_90 (f_X7_forumOf_8  n) 280 x1 x2 x3 x4 x5 v3 (1 : Int32) s4)) := rfl
theorem e_X7_forumOf_8 (n : Nat) (x1 : Int32) (x2 : Int32) (x3 : Int32) (x4 : Int32) (x5 : Int32) (σ : wg_M) : f_X7_forumOf_8 (n + 1) 280 x1 x2 x3 x4 x5 σ = if (σ 11 5) ≤ x5 then (some (x3, σ)) else (wg_bd (f_X2_lives 11 x5 σ) (q_X7_forumOf_8__1 n x1 x2 x3 x4 x5)) := by
  rw [f_X7_forumOf_8]
  simp only [sc_r0_0, sc_r1_1, sc_r280_0, sc_r280_1]
  rfl
theorem e_X7_forumOf (x1 : Int32) (x2 : Int32) (σ : wg_M) : f_X7_forumOf 280 x1 x2 σ = f_X7_forumOf_8  wg_N 280 x1 x2 (-1 : Int32) (0 : Int32) (0 : Int32) σ := rfl
def q_X7_finders_85__1 (k6 : Nat → Int32 → Int32 → Int32 → Int32 → Int32 → wg_M → Option (Int32 × wg_M)) (x1 : Int32) (x2 : Int32) (x3 : Int32) (x4 : Int32) (σ : wg_M) (v1 : Int32) : Option (Int32 × wg_M) := k6 280 x1 x2 x3 x4 v1 σ
theorem e_X7_finders_85__1 (k6 : Nat → Int32 → Int32 → Int32 → Int32 → Int32 → wg_M → Option (Int32 × wg_M)) (x1 : Int32) (x2 : Int32) (x3 : Int32) (x4 : Int32) (σ : wg_M) (v1 : Int32) : q_X7_finders_85__1 k6 x1 x2 x3 x4 σ v1 = k6 280 x1 x2 x3 x4 v1 σ := rfl
theorem e_X7_finders_85 (k6 : Nat → Int32 → Int32 → Int32 → Int32 → Int32 → wg_M → Option (Int32 × wg_M)) (x1 : Int32) (x2 : Int32) (x3 : Int32) (x4 : Int32) (x5 : Int32) (σ : wg_M) : f_X7_finders_85 k6 280 x1 x2 x3 x4 x5 σ = wg_let (x5 + (1 : Int32)) (q_X7_finders_85__1 k6 x1 x2 x3 x4 σ) := rfl
def q_X7_finders_78__1 (k6 : Nat → Int32 → Int32 → Int32 → Int32 → Int32 → wg_M → Option (Int32 × wg_M)) (x1 : Int32) (x2 : Int32) (x3 : Int32) (x5 : Int32) (σ : wg_M) (v1 : Int32) : Option (Int32 × wg_M) := f_X7_finders_85 k6 280 x1 x2 x3 v1 x5 σ
theorem e_X7_finders_78__1 (k6 : Nat → Int32 → Int32 → Int32 → Int32 → Int32 → wg_M → Option (Int32 × wg_M)) (x1 : Int32) (x2 : Int32) (x3 : Int32) (x5 : Int32) (σ : wg_M) (v1 : Int32) : q_X7_finders_78__1 k6 x1 x2 x3 x5 σ v1 = f_X7_finders_85 k6 280 x1 x2 x3 v1 x5 σ := rfl
theorem e_X7_finders_78 (k6 : Nat → Int32 → Int32 → Int32 → Int32 → Int32 → wg_M → Option (Int32 × wg_M)) (x1 : Int32) (x2 : Int32) (x3 : Int32) (x4 : Int32) (x5 : Int32) (t0 : Int32) (σ : wg_M) : f_X7_finders_78 k6 280 x1 x2 x3 x4 x5 t0 σ = if t0 = x2 then (wg_let (x4 + (1 : Int32)) (q_X7_finders_78__1 k6 x1 x2 x3 x5 σ)) else (f_X7_finders_85 k6 280 x1 x2 x3 x4 x5 σ) := rfl
def q_X7_finders_53__1 (k6 : Nat → Int32 → Int32 → Int32 → Int32 → Int32 → wg_M → Option (Int32 × wg_M)) (x1 : Int32) (x2 : Int32) (x3 : Int32) (x4 : Int32) (x5 : Int32) (v1 : Int32) (s2 : wg_M) : Option (Int32 × wg_M) := if v1 ≤ 0 then (f_X7_finders_78 k6 280 x1 x2 x3 x4 x5 (0 : Int32) s2) else (f_X7_finders_78 k6 280 x1 x2 x3 x4 x5 (1 : Int32) s2)
theorem e_X7_finders_53__1 (k6 : Nat → Int32 → Int32 → Int32 → Int32 → Int32 → wg_M → Option (Int32 × wg_M)) (x1 : Int32) (x2 : Int32) (x3 : Int32) (x4 : Int32) (x5 : Int32) (v1 : Int32) (s2 : wg_M) : q_X7_finders_53__1 k6 x1 x2 x3 x4 x5 v1 s2 = if v1 ≤ 0 then (f_X7_finders_78 k6 280 x1 x2 x3 x4 x5 (0 : Int32) s2) else (f_X7_finders_78 k6 280 x1 x2 x3 x4 x5 (1 : Int32) s2) := rfl
theorem e_X7_finders_53 (k6 : Nat → Int32 → Int32 → Int32 → Int32 → Int32 → wg_M → Option (Int32 × wg_M)) (x1 : Int32) (x2 : Int32) (x3 : Int32) (x4 : Int32) (x5 : Int32) (t0 : Int32) (σ : wg_M) : f_X7_finders_53 k6 280 x1 x2 x3 x4 x5 t0 σ = if t0 = 0 then (f_X7_finders_85 k6 280 x1 x2 x3 x4 x5 σ) else (wg_bd (f_X1_verdictOf 279 x1 x5 σ) (q_X7_finders_53__1 k6 x1 x2 x3 x4 x5)) := by
  unfold f_X7_finders_53
  simp only [sc_r280_1]
  rfl
theorem e_X7_finders_52 (k6 : Nat → Int32 → Int32 → Int32 → Int32 → Int32 → wg_M → Option (Int32 × wg_M)) (x1 : Int32) (x2 : Int32) (x3 : Int32) (x4 : Int32) (x5 : Int32) (σ : wg_M) : f_X7_finders_52 k6 280 x1 x2 x3 x4 x5 σ = f_X7_finders_53 k6 280 x1 x2 x3 x4 x5 (0 : Int32) σ := rfl
def q_X7_finders_6__1 (n : Nat) (x1 : Int32) (x2 : Int32) (x3 : Int32) (x4 : Int32) (x5 : Int32) (v1 : Int32) (s2 : wg_M) : Option (Int32 × wg_M) := if v1 = 0 then (f_X7_finders_52 (f_X7_finders_6  n) 280 x1 x2 x3 x4 x5 s2) else (f_X7_finders_53 (f_X7_finders_6  n) 280 x1 x2 x3 x4 x5 (1 : Int32) s2)
theorem e_X7_finders_6__1 (n : Nat) (x1 : Int32) (x2 : Int32) (x3 : Int32) (x4 : Int32) (x5 : Int32) (v1 : Int32) (s2 : wg_M) : q_X7_finders_6__1 n x1 x2 x3 x4 x5 v1 s2 = if v1 = 0 then (f_X7_finders_52 (f_X7_finders_6  n) 280 x1 x2 x3 x4 x5 s2) else (f_X7_finders_53 (f_X7_finders_6  n) 280 x1 x2 x3 x4 x5 (1 : Int32) s2) := rfl
theorem e_X7_finders_6 (n : Nat) (x1 : Int32) (x2 : Int32) (x3 : Int32) (x4 : Int32) (x5 : Int32) (σ : wg_M) : f_X7_finders_6 (n + 1) 280 x1 x2 x3 x4 x5 σ = if (σ 11 5) ≤ x5 then (some (x4, σ)) else (if x5 = x3 then (f_X7_finders_52 (f_X7_finders_6  n) 280 x1 x2 x3 x4 x5 σ) else (wg_bd (f_X2_lives 11 x5 σ) (q_X7_finders_6__1 n x1 x2 x3 x4 x5))) := by
  rw [f_X7_finders_6]
  simp only [sc_r0_0, sc_r1_1, sc_r280_0]
  rfl
theorem e_X7_finders (x1 : Int32) (x2 : Int32) (x3 : Int32) (σ : wg_M) : f_X7_finders 280 x1 x2 x3 σ = f_X7_finders_6  wg_N 280 x1 x2 x3 (0 : Int32) (0 : Int32) σ := rfl
def q_X7_panelsFor__4 (v3 : Int32) (s4 : wg_M) (v5 : Int32) (v6 : Int32) : Option (Int32 × wg_M) := some (v5 + (v6 * v3), s4)
def q_X7_panelsFor__3 (v1 : Int32) (v3 : Int32) (s4 : wg_M) (v5 : Int32) : Option (Int32 × wg_M) := wg_dv (v1 * (v1 - (1 : Int32))) (2 : Int32) (q_X7_panelsFor__4 v3 s4 v5)
def q_X7_panelsFor__2 (v1 : Int32) (v3 : Int32) (s4 : wg_M) : Option (Int32 × wg_M) := wg_dv ((v1 * (v1 - (1 : Int32))) * (v1 - (2 : Int32))) (6 : Int32) (q_X7_panelsFor__3 v1 v3 s4)
def q_X7_panelsFor__1 (x1 : Int32) (v1 : Int32) (s2 : wg_M) : Option (Int32 × wg_M) := wg_bd (f_X7_finders 280 x1 (0 : Int32) (-1 : Int32) s2) (q_X7_panelsFor__2 v1)
theorem e_X7_panelsFor__1 (x1 : Int32) (v1 : Int32) (s2 : wg_M) : q_X7_panelsFor__1 x1 v1 s2 = wg_bd (f_X7_finders 280 x1 (0 : Int32) (-1 : Int32) s2) (q_X7_panelsFor__2 v1) := rfl
theorem e_X7_panelsFor__2 (v1 : Int32) (v3 : Int32) (s4 : wg_M) : q_X7_panelsFor__2 v1 v3 s4 = wg_dv ((v1 * (v1 - (1 : Int32))) * (v1 - (2 : Int32))) (6 : Int32) (q_X7_panelsFor__3 v1 v3 s4) := rfl
theorem e_X7_panelsFor__3 (v1 : Int32) (v3 : Int32) (s4 : wg_M) (v5 : Int32) : q_X7_panelsFor__3 v1 v3 s4 v5 = wg_dv (v1 * (v1 - (1 : Int32))) (2 : Int32) (q_X7_panelsFor__4 v3 s4 v5) := rfl
theorem e_X7_panelsFor__4 (v3 : Int32) (s4 : wg_M) (v5 : Int32) (v6 : Int32) : q_X7_panelsFor__4 v3 s4 v5 v6 = some (v5 + (v6 * v3), s4) := rfl
theorem e_X7_panelsFor (x1 : Int32) (σ : wg_M) : f_X7_panelsFor 280 x1 σ = wg_bd (f_X7_finders 280 x1 (1 : Int32) (-1 : Int32) σ) (q_X7_panelsFor__1 x1) := rfl
def q_X7_turnsOf__3 (v3 : Int32) (v5 : Int32) (s6 : wg_M) : Option (Int32 × wg_M) := some (v3 * v5, s6)
def q_X7_turnsOf__2 (x1 : Int32) (x2 : Int32) (v3 : Int32) (s4 : wg_M) : Option (Int32 × wg_M) := wg_bd (f_X7_finders 280 x1 (0 : Int32) x2 s4) (q_X7_turnsOf__3 v3)
def q_X7_turnsOf__1 (x1 : Int32) (x2 : Int32) (v1 : Int32) (s2 : wg_M) : Option (Int32 × wg_M) := if v1 = 0 then (some ((0 : Int32), s2)) else (wg_bd (f_X7_finders 280 x1 (1 : Int32) x2 s2) (q_X7_turnsOf__2 x1 x2))
theorem e_X7_turnsOf__1 (x1 : Int32) (x2 : Int32) (v1 : Int32) (s2 : wg_M) : q_X7_turnsOf__1 x1 x2 v1 s2 = if v1 = 0 then (some ((0 : Int32), s2)) else (wg_bd (f_X7_finders 280 x1 (1 : Int32) x2 s2) (q_X7_turnsOf__2 x1 x2)) := rfl
theorem e_X7_turnsOf__2 (x1 : Int32) (x2 : Int32) (v3 : Int32) (s4 : wg_M) : q_X7_turnsOf__2 x1 x2 v3 s4 = wg_bd (f_X7_finders 280 x1 (0 : Int32) x2 s4) (q_X7_turnsOf__3 v3) := rfl
theorem e_X7_turnsOf__3 (v3 : Int32) (v5 : Int32) (s6 : wg_M) : q_X7_turnsOf__3 v3 v5 s6 = some (v3 * v5, s6) := rfl
theorem e_X7_turnsOf (x1 : Int32) (x2 : Int32) (σ : wg_M) : f_X7_turnsOf 280 x1 x2 σ = wg_bd (f_X2_lives 11 x2 σ) (q_X7_turnsOf__1 x1 x2) := by
  unfold f_X7_turnsOf
  simp only [sc_r0_0, sc_r1_1, sc_r280_0]
  rfl
def q_X7_heirOf_31__3 (n : Nat) (x2 : Int32) (x3 : Nat) (v1 : Int32) (s2 : wg_M) (v3 : Int32) (v4 : Int32) : Option (Int32 × wg_M) := f_X7_heirOf_31  n x2 x3 v3 v1 v4 s2
def q_X7_heirOf_31__2 (n : Nat) (x2 : Int32) (x3 : Nat) (x6 : Int32) (v1 : Int32) (s2 : wg_M) (v3 : Int32) : Option (Int32 × wg_M) := wg_let (x6 + (1 : Int32)) (q_X7_heirOf_31__3 n x2 x3 v1 s2 v3)
def q_X7_heirOf_31__1 (n : Nat) (x2 : Int32) (x3 : Nat) (x4 : Int32) (x6 : Int32) (v1 : Int32) (s2 : wg_M) : Option (Int32 × wg_M) := if v1 = (-1 : Int32) then (some ((-1 : Int32), s2)) else (wg_let (x4 ||| ((1 : Int32) <<< (v1 &&& 31))) (q_X7_heirOf_31__2 n x2 x3 x6 v1 s2))
theorem e_X7_heirOf_31__1 (n : Nat) (x2 : Int32) (x3 : Nat) (x4 : Int32) (x6 : Int32) (v1 : Int32) (s2 : wg_M) : q_X7_heirOf_31__1 n x2 x3 x4 x6 v1 s2 = if v1 = (-1 : Int32) then (some ((-1 : Int32), s2)) else (wg_let (x4 ||| ((1 : Int32) <<< (v1 &&& 31))) (q_X7_heirOf_31__2 n x2 x3 x6 v1 s2)) := rfl
theorem e_X7_heirOf_31__2 (n : Nat) (x2 : Int32) (x3 : Nat) (x6 : Int32) (v1 : Int32) (s2 : wg_M) (v3 : Int32) : q_X7_heirOf_31__2 n x2 x3 x6 v1 s2 v3 = wg_let (x6 + (1 : Int32)) (q_X7_heirOf_31__3 n x2 x3 v1 s2 v3) := rfl
theorem e_X7_heirOf_31__3 (n : Nat) (x2 : Int32) (x3 : Nat) (v1 : Int32) (s2 : wg_M) (v3 : Int32) (v4 : Int32) : q_X7_heirOf_31__3 n x2 x3 v1 s2 v3 v4 = f_X7_heirOf_31  n x2 x3 v3 v1 v4 s2 := rfl
theorem e_X7_heirOf_31 (n : Nat) (x2 : Int32) (x3 : Nat) (x4 : Int32) (x5 : Int32) (x6 : Int32) (σ : wg_M) : f_X7_heirOf_31 (n + 1) x2 x3 x4 x5 x6 σ = if x2 ≤ x6 then (some (x5, σ)) else (wg_bd (f_X2_youngestBare x3 x4 σ) (q_X7_heirOf_31__1 n x2 x3 x4 x6)) := by
  rw [f_X7_heirOf_31]
  rfl
def q_X7_heirOf__1 (x2 : Int32) (v1 : Int32) (s2 : wg_M) : Option (Int32 × wg_M) := if v1 = (-1 : Int32) then (some ((-1 : Int32), s2)) else (f_X7_heirOf_31  wg_N x2 11 (0 : Int32) (-1 : Int32) (0 : Int32) s2)
theorem e_X7_heirOf__1 (x2 : Int32) (v1 : Int32) (s2 : wg_M) : q_X7_heirOf__1 x2 v1 s2 = if v1 = (-1 : Int32) then (some ((-1 : Int32), s2)) else (f_X7_heirOf_31  wg_N x2 11 (0 : Int32) (-1 : Int32) (0 : Int32) s2) := rfl
theorem e_X7_heirOf (x1 : Int32) (x2 : Int32) (σ : wg_M) : f_X7_heirOf 280 x1 x2 σ = wg_bd (f_X2_wearer 11 x1 σ) (q_X7_heirOf__1 x2) := by
  unfold f_X7_heirOf
  simp only [sc_r0_0, sc_r1_1, sc_r280_0]
  rfl
def q_X7_madeAfter_10__3 (n : Nat) (x1 : Int32) (x2 : Nat) (σ : wg_M) (v2 : Int32) : Option (Int32 × wg_M) := f_X7_madeAfter_10  n x1 x2 v2 σ
def q_X7_madeAfter_10__2 (σ : wg_M) (v3 : Int32) : Option (Int32 × wg_M) := some (v3, σ)
def q_X7_madeAfter_10__1 (n : Nat) (x1 : Int32) (x2 : Nat) (x3 : Int32) (σ : wg_M) (v1 : Int32) : Option (Int32 × wg_M) := if v1 = x1 then (wg_ga (wg_n Sc (wg_r Sc x2 3)) (σ (wg_r Sc x2 3)) x3 (q_X7_madeAfter_10__2 σ)) else (wg_let (x3 + (1 : Int32)) (q_X7_madeAfter_10__3 n x1 x2 σ))
theorem e_X7_madeAfter_10__1 (n : Nat) (x1 : Int32) (x2 : Nat) (x3 : Int32) (σ : wg_M) (v1 : Int32) : q_X7_madeAfter_10__1 n x1 x2 x3 σ v1 = if v1 = x1 then (wg_ga (wg_n Sc (wg_r Sc x2 3)) (σ (wg_r Sc x2 3)) x3 (q_X7_madeAfter_10__2 σ)) else (wg_let (x3 + (1 : Int32)) (q_X7_madeAfter_10__3 n x1 x2 σ)) := rfl
theorem e_X7_madeAfter_10__2 (σ : wg_M) (v3 : Int32) : q_X7_madeAfter_10__2 σ v3 = some (v3, σ) := rfl
theorem e_X7_madeAfter_10__3 (n : Nat) (x1 : Int32) (x2 : Nat) (σ : wg_M) (v2 : Int32) : q_X7_madeAfter_10__3 n x1 x2 σ v2 = f_X7_madeAfter_10  n x1 x2 v2 σ := rfl
theorem e_X7_madeAfter_10 (n : Nat) (x1 : Int32) (x2 : Nat) (x3 : Int32) (σ : wg_M) : f_X7_madeAfter_10 (n + 1) x1 x2 x3 σ = if (σ x2 4) ≤ x3 then (some ((-1 : Int32), σ)) else (wg_ga (wg_n Sc (wg_r Sc x2 2)) (σ (wg_r Sc x2 2)) x3 (q_X7_madeAfter_10__1 n x1 x2 x3 σ)) := by
  rw [f_X7_madeAfter_10]
  rfl
theorem e_X7_madeAfter (x1 : Int32) (σ : wg_M) : f_X7_madeAfter 280 x1 σ = f_X7_madeAfter_10  wg_N x1 44 (0 : Int32) σ := by
  unfold f_X7_madeAfter
  simp only [sc_r0_5, sc_r280_0]
def q_X7_rootOf_7__3 (n : Nat) (v1 : Int32) (v2 : Int32) (s3 : wg_M) (v4 : Int32) : Option (Int32 × wg_M) := f_X7_rootOf_7  n 280 v1 v2 v4 s3
def q_X7_rootOf_7__2 (n : Nat) (x3 : Int32) (x4 : Int32) (v1 : Int32) (v2 : Int32) (s3 : wg_M) : Option (Int32 × wg_M) := if v2 = (-1 : Int32) then (some (x3, s3)) else (if ((v1 >>> (v2 &&& 31)) &&& (1 : Int32)) = (1 : Int32) then (some (v2, s3)) else (wg_let (x4 + (1 : Int32)) (q_X7_rootOf_7__3 n v1 v2 s3)))
def q_X7_rootOf_7__1 (n : Nat) (x3 : Int32) (x4 : Int32) (σ : wg_M) (v1 : Int32) : Option (Int32 × wg_M) := wg_bd (f_X7_madeAfter 280 x3 σ) (q_X7_rootOf_7__2 n x3 x4 v1)
theorem e_X7_rootOf_7__1 (n : Nat) (x3 : Int32) (x4 : Int32) (σ : wg_M) (v1 : Int32) : q_X7_rootOf_7__1 n x3 x4 σ v1 = wg_bd (f_X7_madeAfter 280 x3 σ) (q_X7_rootOf_7__2 n x3 x4 v1) := rfl
theorem e_X7_rootOf_7__2 (n : Nat) (x3 : Int32) (x4 : Int32) (v1 : Int32) (v2 : Int32) (s3 : wg_M) : q_X7_rootOf_7__2 n x3 x4 v1 v2 s3 = if v2 = (-1 : Int32) then (some (x3, s3)) else (if ((v1 >>> (v2 &&& 31)) &&& (1 : Int32)) = (1 : Int32) then (some (v2, s3)) else (wg_let (x4 + (1 : Int32)) (q_X7_rootOf_7__3 n v1 v2 s3))) := rfl
theorem e_X7_rootOf_7__3 (n : Nat) (v1 : Int32) (v2 : Int32) (s3 : wg_M) (v4 : Int32) : q_X7_rootOf_7__3 n v1 v2 s3 v4 = f_X7_rootOf_7  n 280 v1 v2 v4 s3 := rfl
theorem e_X7_rootOf_7 (n : Nat) (x2 : Int32) (x3 : Int32) (x4 : Int32) (σ : wg_M) : f_X7_rootOf_7 (n + 1) 280 x2 x3 x4 σ = if (8 : Int32) ≤ x4 then (some (x3, σ)) else (wg_let (x2 ||| ((1 : Int32) <<< (x3 &&& 31))) (q_X7_rootOf_7__1 n x3 x4 σ)) := by
  rw [f_X7_rootOf_7]
  rfl
theorem e_X7_rootOf (x1 : Int32) (σ : wg_M) : f_X7_rootOf 280 x1 σ = f_X7_rootOf_7  wg_N 280 (0 : Int32) x1 (0 : Int32) σ := rfl
def q_X7_backSet_7__3 (n : Nat) (v1 : Int32) (v2 : Int32) (s3 : wg_M) (v4 : Int32) : Option (Int32 × wg_M) := f_X7_backSet_7  n 280 v1 v2 v4 s3
def q_X7_backSet_7__2 (n : Nat) (x4 : Int32) (v1 : Int32) (v2 : Int32) (s3 : wg_M) : Option (Int32 × wg_M) := wg_let (x4 + (1 : Int32)) (q_X7_backSet_7__3 n v1 v2 s3)
def q_X7_backSet_7__1 (n : Nat) (x3 : Int32) (x4 : Int32) (σ : wg_M) (v1 : Int32) : Option (Int32 × wg_M) := wg_bd (f_X7_madeAfter 280 x3 σ) (q_X7_backSet_7__2 n x4 v1)
theorem e_X7_backSet_7__1 (n : Nat) (x3 : Int32) (x4 : Int32) (σ : wg_M) (v1 : Int32) : q_X7_backSet_7__1 n x3 x4 σ v1 = wg_bd (f_X7_madeAfter 280 x3 σ) (q_X7_backSet_7__2 n x4 v1) := rfl
theorem e_X7_backSet_7__2 (n : Nat) (x4 : Int32) (v1 : Int32) (v2 : Int32) (s3 : wg_M) : q_X7_backSet_7__2 n x4 v1 v2 s3 = wg_let (x4 + (1 : Int32)) (q_X7_backSet_7__3 n v1 v2 s3) := rfl
theorem e_X7_backSet_7__3 (n : Nat) (v1 : Int32) (v2 : Int32) (s3 : wg_M) (v4 : Int32) : q_X7_backSet_7__3 n v1 v2 s3 v4 = f_X7_backSet_7  n 280 v1 v2 v4 s3 := rfl
theorem e_X7_backSet_7 (n : Nat) (x2 : Int32) (x3 : Int32) (x4 : Int32) (σ : wg_M) : f_X7_backSet_7 (n + 1) 280 x2 x3 x4 σ = if (8 : Int32) ≤ x4 then (some (x2, σ)) else (if x3 = (-1 : Int32) then (some (x2, σ)) else (wg_let (x2 ||| ((1 : Int32) <<< (x3 &&& 31))) (q_X7_backSet_7__1 n x3 x4 σ))) := by
  rw [f_X7_backSet_7]
  rfl
theorem e_X7_backSet (x1 : Int32) (σ : wg_M) : f_X7_backSet 280 x1 σ = f_X7_backSet_7  wg_N 280 (0 : Int32) x1 (0 : Int32) σ := rfl
def q_X7_commonOf_12__2 (n : Nat) (x3 : Int32) (v1 : Int32) (s2 : wg_M) (v3 : Int32) : Option (Int32 × wg_M) := f_X7_commonOf_12  n 280 x3 v1 v3 s2
def q_X7_commonOf_12__1 (n : Nat) (x3 : Int32) (x5 : Int32) (v1 : Int32) (s2 : wg_M) : Option (Int32 × wg_M) := wg_let (x5 + (1 : Int32)) (q_X7_commonOf_12__2 n x3 v1 s2)
theorem e_X7_commonOf_12__1 (n : Nat) (x3 : Int32) (x5 : Int32) (v1 : Int32) (s2 : wg_M) : q_X7_commonOf_12__1 n x3 x5 v1 s2 = wg_let (x5 + (1 : Int32)) (q_X7_commonOf_12__2 n x3 v1 s2) := rfl
theorem e_X7_commonOf_12__2 (n : Nat) (x3 : Int32) (v1 : Int32) (s2 : wg_M) (v3 : Int32) : q_X7_commonOf_12__2 n x3 v1 s2 v3 = f_X7_commonOf_12  n 280 x3 v1 v3 s2 := rfl
theorem e_X7_commonOf_12 (n : Nat) (x3 : Int32) (x4 : Int32) (x5 : Int32) (σ : wg_M) : f_X7_commonOf_12 (n + 1) 280 x3 x4 x5 σ = if (8 : Int32) ≤ x5 then (some ((-1 : Int32), σ)) else (if x4 = (-1 : Int32) then (some ((-1 : Int32), σ)) else (if ((x3 >>> (x4 &&& 31)) &&& (1 : Int32)) = (1 : Int32) then (some (x4, σ)) else (wg_bd (f_X7_madeAfter 280 x4 σ) (q_X7_commonOf_12__1 n x3 x5)))) := by
  rw [f_X7_commonOf_12]
  rfl
def q_X7_commonOf__1 (x1 : Int32) (v1 : Int32) (s2 : wg_M) : Option (Int32 × wg_M) := f_X7_commonOf_12  wg_N 280 v1 x1 (0 : Int32) s2
theorem e_X7_commonOf__1 (x1 : Int32) (v1 : Int32) (s2 : wg_M) : q_X7_commonOf__1 x1 v1 s2 = f_X7_commonOf_12  wg_N 280 v1 x1 (0 : Int32) s2 := rfl
theorem e_X7_commonOf (x1 : Int32) (x2 : Int32) (σ : wg_M) : f_X7_commonOf 280 x1 x2 σ = wg_bd (f_X7_backSet 280 x2 σ) (q_X7_commonOf__1 x1) := rfl
def q_X7_hasTrait__4 (x3 : Int32) (σ : wg_M) (v5 : Int32) : Option (Int32 × wg_M) := if v5 < x3 then (some ((0 : Int32), σ)) else (some ((1 : Int32), σ))
def q_X7_hasTrait__3 (v3 : Int32) (s4 : wg_M) : Option (Int32 × wg_M) := wg_bz v3 (some (v3, s4))
def q_X7_hasTrait__2 (x3 : Int32) (σ : wg_M) (v2 : Int32) : Option (Int32 × wg_M) := if v2 < x3 then (some ((0 : Int32), σ)) else (some ((1 : Int32), σ))
def q_X7_hasTrait__1 (x3 : Int32) (σ : wg_M) (v1 : Int32) : Option (Int32 × wg_M) := if v1 = x3 then (some ((1 : Int32), σ)) else (some ((0 : Int32), σ))
theorem e_X7_hasTrait__1 (x3 : Int32) (σ : wg_M) (v1 : Int32) : q_X7_hasTrait__1 x3 σ v1 = if v1 = x3 then (some ((1 : Int32), σ)) else (some ((0 : Int32), σ)) := rfl
theorem e_X7_hasTrait__2 (x3 : Int32) (σ : wg_M) (v2 : Int32) : q_X7_hasTrait__2 x3 σ v2 = if v2 < x3 then (some ((0 : Int32), σ)) else (some ((1 : Int32), σ)) := rfl
theorem e_X7_hasTrait__3 (v3 : Int32) (s4 : wg_M) : q_X7_hasTrait__3 v3 s4 = wg_bz v3 (some (v3, s4)) := rfl
theorem e_X7_hasTrait__4 (x3 : Int32) (σ : wg_M) (v5 : Int32) : q_X7_hasTrait__4 x3 σ v5 = if v5 < x3 then (some ((0 : Int32), σ)) else (some ((1 : Int32), σ)) := rfl
theorem e_X7_hasTrait (x1 : Int32) (x2 : Int32) (x3 : Int32) (σ : wg_M) : f_X7_hasTrait 280 x1 x2 x3 σ = wg_sw x2 (0) [wg_ga 8 (σ 3) x1 (q_X7_hasTrait__1 x3 σ), wg_ga 8 (σ 4) x1 (q_X7_hasTrait__2 x3 σ), wg_bd (f_X9_knows 2 x1 x3 σ) q_X7_hasTrait__3] (wg_ga 8 (σ 6) x1 (q_X7_hasTrait__4 x3 σ)) := by
  unfold f_X7_hasTrait
  simp only [sc_n3, sc_n4, sc_n6, sc_r0_0, sc_r1_0, sc_r2_0, sc_r2_1, sc_r2_3, sc_r280_0]
  rfl
def q_X7_isAsTold_50__1 (k10 : Nat → Int32 → Nat → Int32 → wg_M → Option (Int32 × wg_M)) (x1 : Int32) (x2 : Nat) (σ : wg_M) (v1 : Int32) : Option (Int32 × wg_M) := k10 280 x1 x2 v1 σ
theorem e_X7_isAsTold_50__1 (k10 : Nat → Int32 → Nat → Int32 → wg_M → Option (Int32 × wg_M)) (x1 : Int32) (x2 : Nat) (σ : wg_M) (v1 : Int32) : q_X7_isAsTold_50__1 k10 x1 x2 σ v1 = k10 280 x1 x2 v1 σ := rfl
theorem e_X7_isAsTold_50 (k10 : Nat → Int32 → Nat → Int32 → wg_M → Option (Int32 × wg_M)) (x1 : Int32) (x2 : Nat) (x3 : Int32) (t0 : Int32) (t1 : Int32) (σ : wg_M) : f_X7_isAsTold_50 k10 280 x1 x2 x3 t0 t1 σ = if t1 = t0 then (wg_let (x3 + (1 : Int32)) (q_X7_isAsTold_50__1 k10 x1 x2 σ)) else (some ((0 : Int32), σ)) := rfl
def q_X7_isAsTold_10__4 (n : Nat) (x1 : Int32) (x2 : Nat) (x3 : Int32) (v3 : Int32) (s4 : wg_M) (v5 : Int32) : Option (Int32 × wg_M) := if v5 = (1 : Int32) then (f_X7_isAsTold_50 (f_X7_isAsTold_10  n) 280 x1 x2 x3 (1 : Int32) v3 s4) else (f_X7_isAsTold_50 (f_X7_isAsTold_10  n) 280 x1 x2 x3 (0 : Int32) v3 s4)
def q_X7_isAsTold_10__3 (n : Nat) (x1 : Int32) (x2 : Nat) (x3 : Int32) (v3 : Int32) (s4 : wg_M) : Option (Int32 × wg_M) := wg_ga (wg_n Sc (wg_r Sc x2 2)) (s4 (wg_r Sc x2 2)) x3 (q_X7_isAsTold_10__4 n x1 x2 x3 v3 s4)
def q_X7_isAsTold_10__2 (n : Nat) (x1 : Int32) (x2 : Nat) (x3 : Int32) (σ : wg_M) (v1 : Int32) (v2 : Int32) : Option (Int32 × wg_M) := wg_bd (f_X7_hasTrait 280 x1 v1 v2 σ) (q_X7_isAsTold_10__3 n x1 x2 x3)
def q_X7_isAsTold_10__1 (n : Nat) (x1 : Int32) (x2 : Nat) (x3 : Int32) (σ : wg_M) (v1 : Int32) : Option (Int32 × wg_M) := wg_ga (wg_n Sc (wg_r Sc x2 1)) (σ (wg_r Sc x2 1)) x3 (q_X7_isAsTold_10__2 n x1 x2 x3 σ v1)
theorem e_X7_isAsTold_10__1 (n : Nat) (x1 : Int32) (x2 : Nat) (x3 : Int32) (σ : wg_M) (v1 : Int32) : q_X7_isAsTold_10__1 n x1 x2 x3 σ v1 = wg_ga (wg_n Sc (wg_r Sc x2 1)) (σ (wg_r Sc x2 1)) x3 (q_X7_isAsTold_10__2 n x1 x2 x3 σ v1) := rfl
theorem e_X7_isAsTold_10__2 (n : Nat) (x1 : Int32) (x2 : Nat) (x3 : Int32) (σ : wg_M) (v1 : Int32) (v2 : Int32) : q_X7_isAsTold_10__2 n x1 x2 x3 σ v1 v2 = wg_bd (f_X7_hasTrait 280 x1 v1 v2 σ) (q_X7_isAsTold_10__3 n x1 x2 x3) := rfl
theorem e_X7_isAsTold_10__3 (n : Nat) (x1 : Int32) (x2 : Nat) (x3 : Int32) (v3 : Int32) (s4 : wg_M) : q_X7_isAsTold_10__3 n x1 x2 x3 v3 s4 = wg_ga (wg_n Sc (wg_r Sc x2 2)) (s4 (wg_r Sc x2 2)) x3 (q_X7_isAsTold_10__4 n x1 x2 x3 v3 s4) := rfl
theorem e_X7_isAsTold_10__4 (n : Nat) (x1 : Int32) (x2 : Nat) (x3 : Int32) (v3 : Int32) (s4 : wg_M) (v5 : Int32) : q_X7_isAsTold_10__4 n x1 x2 x3 v3 s4 v5 = if v5 = (1 : Int32) then (f_X7_isAsTold_50 (f_X7_isAsTold_10  n) 280 x1 x2 x3 (1 : Int32) v3 s4) else (f_X7_isAsTold_50 (f_X7_isAsTold_10  n) 280 x1 x2 x3 (0 : Int32) v3 s4) := rfl
theorem e_X7_isAsTold_10 (n : Nat) (x1 : Int32) (x2 : Nat) (x3 : Int32) (σ : wg_M) : f_X7_isAsTold_10 (n + 1) 280 x1 x2 x3 σ = if (σ x2 3) ≤ x3 then (some ((1 : Int32), σ)) else (wg_ga (wg_n Sc (wg_r Sc x2 0)) (σ (wg_r Sc x2 0)) x3 (q_X7_isAsTold_10__1 n x1 x2 x3 σ)) := by
  rw [f_X7_isAsTold_10]
  rfl
theorem e_X7_isAsTold (x1 : Int32) (σ : wg_M) : f_X7_isAsTold 280 x1 σ = f_X7_isAsTold_10  wg_N 280 x1 49 (0 : Int32) σ := by
  unfold f_X7_isAsTold
  simp only [sc_r0_6, sc_r280_0]
def q_X7_whoseSet_35__1 (k4 : Nat → Int32 → Int32 → wg_M → Option (Int32 × wg_M)) (x1 : Int32) (σ : wg_M) (v1 : Int32) : Option (Int32 × wg_M) := k4 280 x1 v1 σ
theorem e_X7_whoseSet_35__1 (k4 : Nat → Int32 → Int32 → wg_M → Option (Int32 × wg_M)) (x1 : Int32) (σ : wg_M) (v1 : Int32) : q_X7_whoseSet_35__1 k4 x1 σ v1 = k4 280 x1 v1 σ := rfl
theorem e_X7_whoseSet_35 (k4 : Nat → Int32 → Int32 → wg_M → Option (Int32 × wg_M)) (x1 : Int32) (x2 : Int32) (σ : wg_M) : f_X7_whoseSet_35 k4 280 x1 x2 σ = wg_let (x2 + (1 : Int32)) (q_X7_whoseSet_35__1 k4 x1 σ) := rfl
def q_X7_whoseSet_4__2 (n : Nat) (x2 : Int32) (s2 : wg_M) (v3 : Int32) : Option (Int32 × wg_M) := f_X7_whoseSet_35 (f_X7_whoseSet_4  n) 280 v3 x2 s2
def q_X7_whoseSet_4__1 (n : Nat) (x1 : Int32) (x2 : Int32) (v1 : Int32) (s2 : wg_M) : Option (Int32 × wg_M) := if v1 = 0 then (f_X7_whoseSet_35 (f_X7_whoseSet_4  n) 280 x1 x2 s2) else (wg_let (x1 ||| ((1 : Int32) <<< (x2 &&& 31))) (q_X7_whoseSet_4__2 n x2 s2))
theorem e_X7_whoseSet_4__1 (n : Nat) (x1 : Int32) (x2 : Int32) (v1 : Int32) (s2 : wg_M) : q_X7_whoseSet_4__1 n x1 x2 v1 s2 = if v1 = 0 then (f_X7_whoseSet_35 (f_X7_whoseSet_4  n) 280 x1 x2 s2) else (wg_let (x1 ||| ((1 : Int32) <<< (x2 &&& 31))) (q_X7_whoseSet_4__2 n x2 s2)) := rfl
theorem e_X7_whoseSet_4__2 (n : Nat) (x2 : Int32) (s2 : wg_M) (v3 : Int32) : q_X7_whoseSet_4__2 n x2 s2 v3 = f_X7_whoseSet_35 (f_X7_whoseSet_4  n) 280 v3 x2 s2 := rfl
theorem e_X7_whoseSet_4 (n : Nat) (x1 : Int32) (x2 : Int32) (σ : wg_M) : f_X7_whoseSet_4 (n + 1) 280 x1 x2 σ = if (σ 2 8) ≤ x2 then (some (x1, σ)) else (wg_bd (f_X7_isAsTold 280 x2 σ) (q_X7_whoseSet_4__1 n x1 x2)) := by
  rw [f_X7_whoseSet_4]
  simp only [sc_r0_0, sc_r1_0, sc_r280_0]
  rfl
theorem e_X7_whoseSet (σ : wg_M) : f_X7_whoseSet 280 σ = f_X7_whoseSet_4  wg_N 280 (0 : Int32) (0 : Int32) σ := rfl
def q_X7_knowers_55__1 (k5 : Nat → Int32 → Int32 → Int32 → Int32 → wg_M → Option (Int32 × wg_M)) (x1 : Int32) (x2 : Int32) (x3 : Int32) (σ : wg_M) (v1 : Int32) : Option (Int32 × wg_M) := k5 280 x1 x2 x3 v1 σ
theorem e_X7_knowers_55__1 (k5 : Nat → Int32 → Int32 → Int32 → Int32 → wg_M → Option (Int32 × wg_M)) (x1 : Int32) (x2 : Int32) (x3 : Int32) (σ : wg_M) (v1 : Int32) : q_X7_knowers_55__1 k5 x1 x2 x3 σ v1 = k5 280 x1 x2 x3 v1 σ := rfl
theorem e_X7_knowers_55 (k5 : Nat → Int32 → Int32 → Int32 → Int32 → wg_M → Option (Int32 × wg_M)) (x1 : Int32) (x2 : Int32) (x3 : Int32) (x4 : Int32) (σ : wg_M) : f_X7_knowers_55 k5 280 x1 x2 x3 x4 σ = wg_let (x4 + (1 : Int32)) (q_X7_knowers_55__1 k5 x1 x2 x3 σ) := rfl
def q_X7_knowers_5__2 (n : Nat) (x1 : Int32) (x2 : Int32) (x4 : Int32) (s2 : wg_M) (v3 : Int32) : Option (Int32 × wg_M) := f_X7_knowers_55 (f_X7_knowers_5  n) 280 x1 x2 v3 x4 s2
def q_X7_knowers_5__1 (n : Nat) (x1 : Int32) (x2 : Int32) (x3 : Int32) (x4 : Int32) (v1 : Int32) (s2 : wg_M) : Option (Int32 × wg_M) := if v1 = 0 then (f_X7_knowers_55 (f_X7_knowers_5  n) 280 x1 x2 x3 x4 s2) else (wg_let (x3 + (1 : Int32)) (q_X7_knowers_5__2 n x1 x2 x4 s2))
theorem e_X7_knowers_5__1 (n : Nat) (x1 : Int32) (x2 : Int32) (x3 : Int32) (x4 : Int32) (v1 : Int32) (s2 : wg_M) : q_X7_knowers_5__1 n x1 x2 x3 x4 v1 s2 = if v1 = 0 then (f_X7_knowers_55 (f_X7_knowers_5  n) 280 x1 x2 x3 x4 s2) else (wg_let (x3 + (1 : Int32)) (q_X7_knowers_5__2 n x1 x2 x4 s2)) := rfl
theorem e_X7_knowers_5__2 (n : Nat) (x1 : Int32) (x2 : Int32) (x4 : Int32) (s2 : wg_M) (v3 : Int32) : q_X7_knowers_5__2 n x1 x2 x4 s2 v3 = f_X7_knowers_55 (f_X7_knowers_5  n) 280 x1 x2 v3 x4 s2 := rfl
theorem e_X7_knowers_5 (n : Nat) (x1 : Int32) (x2 : Int32) (x3 : Int32) (x4 : Int32) (σ : wg_M) : f_X7_knowers_5 (n + 1) 280 x1 x2 x3 x4 σ = if (σ 2 8) ≤ x4 then (some (x3, σ)) else (if ((x1 >>> (x4 &&& 31)) &&& (1 : Int32)) = (1 : Int32) then (wg_bd (f_X9_knows 2 x4 x2 σ) (q_X7_knowers_5__1 n x1 x2 x3 x4)) else (f_X7_knowers_55 (f_X7_knowers_5  n) 280 x1 x2 x3 x4 σ)) := by
  rw [f_X7_knowers_5]
  simp only [sc_r0_0, sc_r1_0, sc_r280_0]
  rfl
theorem e_X7_knowers (x1 : Int32) (x2 : Int32) (σ : wg_M) : f_X7_knowers 280 x1 x2 σ = f_X7_knowers_5  wg_N 280 x1 x2 (0 : Int32) (0 : Int32) σ := rfl
def q_X7_causeToLookAt_71__1 (k25 : Nat → Int32 → Int32 → Int32 → Int32 → Int32 → wg_M → Option (Int32 × wg_M)) (x1 : Int32) (x2 : Int32) (x3 : Int32) (x4 : Int32) (σ : wg_M) (v1 : Int32) : Option (Int32 × wg_M) := k25 280 x1 x2 x3 x4 v1 σ
theorem e_X7_causeToLookAt_71__1 (k25 : Nat → Int32 → Int32 → Int32 → Int32 → Int32 → wg_M → Option (Int32 × wg_M)) (x1 : Int32) (x2 : Int32) (x3 : Int32) (x4 : Int32) (σ : wg_M) (v1 : Int32) : q_X7_causeToLookAt_71__1 k25 x1 x2 x3 x4 σ v1 = k25 280 x1 x2 x3 x4 v1 σ := rfl
theorem e_X7_causeToLookAt_71 (k25 : Nat → Int32 → Int32 → Int32 → Int32 → Int32 → wg_M → Option (Int32 × wg_M)) (x1 : Int32) (x2 : Int32) (x3 : Int32) (x4 : Int32) (x5 : Int32) (σ : wg_M) : f_X7_causeToLookAt_71 k25 280 x1 x2 x3 x4 x5 σ = wg_let (x5 + (1 : Int32)) (q_X7_causeToLookAt_71__1 k25 x1 x2 x3 x4 σ) := rfl
theorem e_X7_causeToLookAt_64 (k25 : Nat → Int32 → Int32 → Int32 → Int32 → Int32 → wg_M → Option (Int32 × wg_M)) (x1 : Int32) (x2 : Int32) (x5 : Int32) (x7 : Int32) (σ : wg_M) : f_X7_causeToLookAt_64 k25 280 x1 x2 x5 x7 σ = f_X7_causeToLookAt_71 k25 280 x1 x2 x5 x7 x5 σ := rfl
def q_X7_causeToLookAt_25__2 (n : Nat) (x1 : Int32) (x2 : Int32) (x3 : Int32) (x4 : Int32) (x5 : Int32) (v3 : Int32) (s4 : wg_M) : Option (Int32 × wg_M) := if x3 = (-1 : Int32) then (f_X7_causeToLookAt_64 (f_X7_causeToLookAt_25  n) 280 x1 x2 x5 v3 s4) else (if x4 ≤ v3 then (f_X7_causeToLookAt_71 (f_X7_causeToLookAt_25  n) 280 x1 x2 x3 x4 x5 s4) else (f_X7_causeToLookAt_64 (f_X7_causeToLookAt_25  n) 280 x1 x2 x5 v3 s4))
def q_X7_causeToLookAt_25__1 (n : Nat) (x1 : Int32) (x2 : Int32) (x3 : Int32) (x4 : Int32) (x5 : Int32) (v1 : Int32) (s2 : wg_M) : Option (Int32 × wg_M) := wg_bd (f_J9_max_7cf53 v1 (x2 - v1) s2) (q_X7_causeToLookAt_25__2 n x1 x2 x3 x4 x5)
theorem e_X7_causeToLookAt_25__1 (n : Nat) (x1 : Int32) (x2 : Int32) (x3 : Int32) (x4 : Int32) (x5 : Int32) (v1 : Int32) (s2 : wg_M) : q_X7_causeToLookAt_25__1 n x1 x2 x3 x4 x5 v1 s2 = wg_bd (f_J9_max_7cf53 v1 (x2 - v1) s2) (q_X7_causeToLookAt_25__2 n x1 x2 x3 x4 x5) := rfl
theorem e_X7_causeToLookAt_25__2 (n : Nat) (x1 : Int32) (x2 : Int32) (x3 : Int32) (x4 : Int32) (x5 : Int32) (v3 : Int32) (s4 : wg_M) : q_X7_causeToLookAt_25__2 n x1 x2 x3 x4 x5 v3 s4 = if x3 = (-1 : Int32) then (f_X7_causeToLookAt_64 (f_X7_causeToLookAt_25  n) 280 x1 x2 x5 v3 s4) else (if x4 ≤ v3 then (f_X7_causeToLookAt_71 (f_X7_causeToLookAt_25  n) 280 x1 x2 x3 x4 x5 s4) else (f_X7_causeToLookAt_64 (f_X7_causeToLookAt_25  n) 280 x1 x2 x5 v3 s4)) := rfl
theorem e_X7_causeToLookAt_25 (n : Nat) (x1 : Int32) (x2 : Int32) (x3 : Int32) (x4 : Int32) (x5 : Int32) (σ : wg_M) : f_X7_causeToLookAt_25 (n + 1) 280 x1 x2 x3 x4 x5 σ = if (8 : Int32) ≤ x5 then (some (x3, σ)) else (wg_bd (f_X7_knowers 280 x1 x5 σ) (q_X7_causeToLookAt_25__1 n x1 x2 x3 x4 x5)) := by
  rw [f_X7_causeToLookAt_25]
  rfl
def q_X7_causeToLookAt__2 (v1 : Int32) (v3 : Int32) (s4 : wg_M) : Option (Int32 × wg_M) := if (2 : Int32) ≤ v3 then (f_X7_causeToLookAt_25  wg_N 280 v1 v3 (-1 : Int32) (0 : Int32) (0 : Int32) s4) else (some ((-1 : Int32), s4))
def q_X7_causeToLookAt__1 (v1 : Int32) (s2 : wg_M) : Option (Int32 × wg_M) := wg_bd (f_J6_bitCount_0f7a4 v1 s2) (q_X7_causeToLookAt__2 v1)
theorem e_X7_causeToLookAt__1 (v1 : Int32) (s2 : wg_M) : q_X7_causeToLookAt__1 v1 s2 = wg_bd (f_J6_bitCount_0f7a4 v1 s2) (q_X7_causeToLookAt__2 v1) := rfl
theorem e_X7_causeToLookAt__2 (v1 : Int32) (v3 : Int32) (s4 : wg_M) : q_X7_causeToLookAt__2 v1 v3 s4 = if (2 : Int32) ≤ v3 then (f_X7_causeToLookAt_25  wg_N 280 v1 v3 (-1 : Int32) (0 : Int32) (0 : Int32) s4) else (some ((-1 : Int32), s4)) := rfl
theorem e_X7_causeToLookAt (σ : wg_M) : f_X7_causeToLookAt 280 σ = wg_bd (f_X7_whoseSet 280 σ) q_X7_causeToLookAt__1 := rfl
def q_X8_addTrait_40__5 (s6 : wg_M) : Option (Int32 × wg_M) := some (s6 49 3, s6)
def q_X8_addTrait_40__4 (s5 : wg_M) : Option (Int32 × wg_M) := wg_st s5 49 3 ((s5 49 3) + (1 : Int32)) q_X8_addTrait_40__5
def q_X8_addTrait_40__3 (x3 : Int32) (s4 : wg_M) : Option (Int32 × wg_M) := wg_sa 8 s4 52 (s4 49 3) x3 q_X8_addTrait_40__4
def q_X8_addTrait_40__2 (x2 : Int32) (x3 : Int32) (s3 : wg_M) : Option (Int32 × wg_M) := wg_sa 8 s3 51 (s3 49 3) x2 (q_X8_addTrait_40__3 x3)
def q_X8_addTrait_40__1 (x1 : Int32) (x2 : Int32) (x3 : Int32) (v1 : Int32) (s2 : wg_M) : Option (Int32 × wg_M) := if v1 = 0 then (some ((-1 : Int32), s2)) else (wg_sa 8 s2 50 (s2 49 3) x1 (q_X8_addTrait_40__2 x2 x3))
theorem e_X8_addTrait_40__1 (x1 : Int32) (x2 : Int32) (x3 : Int32) (v1 : Int32) (s2 : wg_M) : q_X8_addTrait_40__1 x1 x2 x3 v1 s2 = if v1 = 0 then (some ((-1 : Int32), s2)) else (wg_sa 8 s2 50 (s2 49 3) x1 (q_X8_addTrait_40__2 x2 x3)) := rfl
theorem e_X8_addTrait_40__2 (x2 : Int32) (x3 : Int32) (s3 : wg_M) : q_X8_addTrait_40__2 x2 x3 s3 = wg_sa 8 s3 51 (s3 49 3) x2 (q_X8_addTrait_40__3 x3) := rfl
theorem e_X8_addTrait_40__3 (x3 : Int32) (s4 : wg_M) : q_X8_addTrait_40__3 x3 s4 = wg_sa 8 s4 52 (s4 49 3) x3 q_X8_addTrait_40__4 := rfl
theorem e_X8_addTrait_40__4 (s5 : wg_M) : q_X8_addTrait_40__4 s5 = wg_st s5 49 3 ((s5 49 3) + (1 : Int32)) q_X8_addTrait_40__5 := rfl
theorem e_X8_addTrait_40__5 (s6 : wg_M) : q_X8_addTrait_40__5 s6 = some (s6 49 3, s6) := rfl
theorem e_X8_addTrait_40 (x1 : Int32) (x2 : Int32) (x3 : Int32) (t0 : Int32) (σ : wg_M) : f_X8_addTrait_40 49 x1 x2 x3 t0 σ = wg_bd (f_X11_within x2 (0 : Int32) t0 σ) (q_X8_addTrait_40__1 x1 x2 x3) := by
  unfold f_X8_addTrait_40
  simp only [sc_n50, sc_n51, sc_n52, sc_r49_0, sc_r49_1, sc_r49_2]
  rfl
def q_X8_addTrait__1 (x1 : Int32) (x2 : Int32) (x3 : Int32) (v1 : Int32) (s2 : wg_M) : Option (Int32 × wg_M) := if v1 = 0 then (some ((-1 : Int32), s2)) else (if x1 = 0 then (f_X8_addTrait_40  49 x1 x2 x3 (2 : Int32) s2) else (if x1 = (2 : Int32) then (f_X8_addTrait_40  49 x1 x2 x3 (7 : Int32) s2) else (f_X8_addTrait_40  49 x1 x2 x3 (99 : Int32) s2)))
theorem e_X8_addTrait__1 (x1 : Int32) (x2 : Int32) (x3 : Int32) (v1 : Int32) (s2 : wg_M) : q_X8_addTrait__1 x1 x2 x3 v1 s2 = if v1 = 0 then (some ((-1 : Int32), s2)) else (if x1 = 0 then (f_X8_addTrait_40  49 x1 x2 x3 (2 : Int32) s2) else (if x1 = (2 : Int32) then (f_X8_addTrait_40  49 x1 x2 x3 (7 : Int32) s2) else (f_X8_addTrait_40  49 x1 x2 x3 (99 : Int32) s2))) := rfl
theorem e_X8_addTrait (x1 : Int32) (x2 : Int32) (x3 : Int32) (σ : wg_M) : f_X8_addTrait 49 x1 x2 x3 σ = if (8 : Int32) ≤ (σ 49 3) then (some ((-1 : Int32), σ)) else (wg_bd (f_X11_within x1 (0 : Int32) (3 : Int32) σ) (q_X8_addTrait__1 x1 x2 x3)) := rfl
def q_X8_addCite_30__3 (s3 : wg_M) : Option (Int32 × wg_M) := some (s3 49 6, s3)
def q_X8_addCite_30__2 (s2 : wg_M) : Option (Int32 × wg_M) := wg_st s2 49 6 ((s2 49 6) + (1 : Int32)) q_X8_addCite_30__3
def q_X8_addCite_30__1 (x2 : Int32) (s1 : wg_M) : Option (Int32 × wg_M) := wg_sa 16 s1 54 (s1 49 6) x2 q_X8_addCite_30__2
theorem e_X8_addCite_30__1 (x2 : Int32) (s1 : wg_M) : q_X8_addCite_30__1 x2 s1 = wg_sa 16 s1 54 (s1 49 6) x2 q_X8_addCite_30__2 := rfl
theorem e_X8_addCite_30__2 (s2 : wg_M) : q_X8_addCite_30__2 s2 = wg_st s2 49 6 ((s2 49 6) + (1 : Int32)) q_X8_addCite_30__3 := rfl
theorem e_X8_addCite_30__3 (s3 : wg_M) : q_X8_addCite_30__3 s3 = some (s3 49 6, s3) := rfl
theorem e_X8_addCite_30 (x1 : Int32) (x2 : Int32) (t0 : Int32) (σ : wg_M) : f_X8_addCite_30 49 x1 x2 t0 σ = if t0 = 0 then (some ((-1 : Int32), σ)) else (if (σ 49 6) < (16 : Int32) then (wg_sa 16 σ 53 (σ 49 6) x1 (q_X8_addCite_30__1 x2)) else (some ((-1 : Int32), σ))) := by
  unfold f_X8_addCite_30
  simp only [sc_n53, sc_n54, sc_r49_4, sc_r49_5]
  rfl
theorem e_X8_addCite_29 (x1 : Int32) (x2 : Int32) (σ : wg_M) : f_X8_addCite_29 49 x1 x2 σ = f_X8_addCite_30  49 x1 x2 (0 : Int32) σ := rfl
def q_X8_addCite__2 (x1 : Int32) (x2 : Int32) (v3 : Int32) (s4 : wg_M) : Option (Int32 × wg_M) := if v3 = 0 then (f_X8_addCite_29  49 x1 x2 s4) else (if x1 = x2 then (f_X8_addCite_29  49 x1 x2 s4) else (f_X8_addCite_30  49 x1 x2 (1 : Int32) s4))
def q_X8_addCite__1 (x1 : Int32) (x2 : Int32) (v1 : Int32) (s2 : wg_M) : Option (Int32 × wg_M) := if v1 = 0 then (f_X8_addCite_29  49 x1 x2 s2) else (wg_bd (f_X11_within x2 (0 : Int32) (13 : Int32) s2) (q_X8_addCite__2 x1 x2))
theorem e_X8_addCite__1 (x1 : Int32) (x2 : Int32) (v1 : Int32) (s2 : wg_M) : q_X8_addCite__1 x1 x2 v1 s2 = if v1 = 0 then (f_X8_addCite_29  49 x1 x2 s2) else (wg_bd (f_X11_within x2 (0 : Int32) (13 : Int32) s2) (q_X8_addCite__2 x1 x2)) := rfl
theorem e_X8_addCite__2 (x1 : Int32) (x2 : Int32) (v3 : Int32) (s4 : wg_M) : q_X8_addCite__2 x1 x2 v3 s4 = if v3 = 0 then (f_X8_addCite_29  49 x1 x2 s4) else (if x1 = x2 then (f_X8_addCite_29  49 x1 x2 s4) else (f_X8_addCite_30  49 x1 x2 (1 : Int32) s4)) := rfl
theorem e_X8_addCite (x1 : Int32) (x2 : Int32) (σ : wg_M) : f_X8_addCite 49 x1 x2 σ = wg_bd (f_X11_within x1 (0 : Int32) (13 : Int32) σ) (q_X8_addCite__1 x1 x2) := rfl
def q_X8_addHard__5 (s7 : wg_M) : Option (Int32 × wg_M) := some (s7 49 10, s7)
def q_X8_addHard__4 (s6 : wg_M) : Option (Int32 × wg_M) := wg_st s6 49 10 ((s6 49 10) + (1 : Int32)) q_X8_addHard__5
def q_X8_addHard__3 (x2 : Int32) (s5 : wg_M) : Option (Int32 × wg_M) := wg_sa 7 s5 57 (s5 49 10) x2 q_X8_addHard__4
def q_X8_addHard__2 (x1 : Int32) (x2 : Int32) (v3 : Int32) (s4 : wg_M) : Option (Int32 × wg_M) := if v3 = 0 then (some ((-1 : Int32), s4)) else (wg_sa 7 s4 56 (s4 49 10) x1 (q_X8_addHard__3 x2))
def q_X8_addHard__1 (x1 : Int32) (x2 : Int32) (v1 : Int32) (s2 : wg_M) : Option (Int32 × wg_M) := if v1 = 0 then (some ((-1 : Int32), s2)) else (wg_bd (f_X11_within x2 (0 : Int32) (99 : Int32) s2) (q_X8_addHard__2 x1 x2))
theorem e_X8_addHard__1 (x1 : Int32) (x2 : Int32) (v1 : Int32) (s2 : wg_M) : q_X8_addHard__1 x1 x2 v1 s2 = if v1 = 0 then (some ((-1 : Int32), s2)) else (wg_bd (f_X11_within x2 (0 : Int32) (99 : Int32) s2) (q_X8_addHard__2 x1 x2)) := rfl
theorem e_X8_addHard__2 (x1 : Int32) (x2 : Int32) (v3 : Int32) (s4 : wg_M) : q_X8_addHard__2 x1 x2 v3 s4 = if v3 = 0 then (some ((-1 : Int32), s4)) else (wg_sa 7 s4 56 (s4 49 10) x1 (q_X8_addHard__3 x2)) := rfl
theorem e_X8_addHard__3 (x2 : Int32) (s5 : wg_M) : q_X8_addHard__3 x2 s5 = wg_sa 7 s5 57 (s5 49 10) x2 q_X8_addHard__4 := rfl
theorem e_X8_addHard__4 (s6 : wg_M) : q_X8_addHard__4 s6 = wg_st s6 49 10 ((s6 49 10) + (1 : Int32)) q_X8_addHard__5 := rfl
theorem e_X8_addHard__5 (s7 : wg_M) : q_X8_addHard__5 s7 = some (s7 49 10, s7) := rfl
theorem e_X8_addHard (x1 : Int32) (x2 : Int32) (σ : wg_M) : f_X8_addHard 49 x1 x2 σ = if (7 : Int32) ≤ (σ 49 10) then (some ((-1 : Int32), σ)) else (wg_bd (f_X11_within x1 (1 : Int32) (24 : Int32) σ) (q_X8_addHard__1 x1 x2)) := by
  unfold f_X8_addHard
  simp only [sc_n56, sc_n57, sc_r49_8, sc_r49_9]
  rfl
def q_X8_measureRows_79__1 (k20 : Nat → Int32 → Int32 → Int32 → wg_M → Option (Int32 × wg_M)) (x1 : Int32) (x2 : Int32) (σ : wg_M) (v1 : Int32) : Option (Int32 × wg_M) := k20 49 x1 x2 v1 σ
theorem e_X8_measureRows_79__1 (k20 : Nat → Int32 → Int32 → Int32 → wg_M → Option (Int32 × wg_M)) (x1 : Int32) (x2 : Int32) (σ : wg_M) (v1 : Int32) : q_X8_measureRows_79__1 k20 x1 x2 σ v1 = k20 49 x1 x2 v1 σ := rfl
theorem e_X8_measureRows_79 (k20 : Nat → Int32 → Int32 → Int32 → wg_M → Option (Int32 × wg_M)) (x1 : Int32) (x2 : Int32) (x3 : Int32) (σ : wg_M) : f_X8_measureRows_79 k20 49 x1 x2 x3 σ = wg_let (x3 + (1 : Int32)) (q_X8_measureRows_79__1 k20 x1 x2 σ) := rfl
def q_X8_measureRows_20__9 (k10 : Nat → Int32 → wg_M → Option (Int32 × wg_M)) (n : Nat) (x1 : Int32) (x3 : Int32) (s9 : wg_M) : Option (Int32 × wg_M) := f_X8_measureRows_79 (f_X8_measureRows_20 k10 n) 49 x1 (1 : Int32) x3 s9
def q_X8_measureRows_20__8 (k10 : Nat → Int32 → wg_M → Option (Int32 × wg_M)) (n : Nat) (x1 : Int32) (x3 : Int32) (σ : wg_M) (v6 : Int32) (v8 : Int32) : Option (Int32 × wg_M) := wg_sa 14 σ 58 v6 (v8 + (1 : Int32)) (q_X8_measureRows_20__9 k10 n x1 x3)
def q_X8_measureRows_20__7 (k10 : Nat → Int32 → wg_M → Option (Int32 × wg_M)) (n : Nat) (x1 : Int32) (x3 : Int32) (σ : wg_M) (v6 : Int32) (v7 : Int32) : Option (Int32 × wg_M) := wg_ga 14 (σ 58) v7 (q_X8_measureRows_20__8 k10 n x1 x3 σ v6)
def q_X8_measureRows_20__6 (k10 : Nat → Int32 → wg_M → Option (Int32 × wg_M)) (n : Nat) (x1 : Int32) (x3 : Int32) (σ : wg_M) (v6 : Int32) : Option (Int32 × wg_M) := wg_ga 16 (σ 54) x3 (q_X8_measureRows_20__7 k10 n x1 x3 σ v6)
def q_X8_measureRows_20__5 (k10 : Nat → Int32 → wg_M → Option (Int32 × wg_M)) (n : Nat) (x1 : Int32) (x2 : Int32) (x3 : Int32) (σ : wg_M) (v3 : Int32) (v5 : Int32) : Option (Int32 × wg_M) := if v5 < v3 then (f_X8_measureRows_79 (f_X8_measureRows_20 k10 n) 49 x1 x2 x3 σ) else (wg_ga 16 (σ 53) x3 (q_X8_measureRows_20__6 k10 n x1 x3 σ))
def q_X8_measureRows_20__4 (k10 : Nat → Int32 → wg_M → Option (Int32 × wg_M)) (n : Nat) (x1 : Int32) (x2 : Int32) (x3 : Int32) (σ : wg_M) (v3 : Int32) (v4 : Int32) : Option (Int32 × wg_M) := wg_ga 14 (σ 58) v4 (q_X8_measureRows_20__5 k10 n x1 x2 x3 σ v3)
def q_X8_measureRows_20__3 (k10 : Nat → Int32 → wg_M → Option (Int32 × wg_M)) (n : Nat) (x1 : Int32) (x2 : Int32) (x3 : Int32) (σ : wg_M) (v3 : Int32) : Option (Int32 × wg_M) := wg_ga 16 (σ 54) x3 (q_X8_measureRows_20__4 k10 n x1 x2 x3 σ v3)
def q_X8_measureRows_20__2 (k10 : Nat → Int32 → wg_M → Option (Int32 × wg_M)) (n : Nat) (x1 : Int32) (x2 : Int32) (x3 : Int32) (σ : wg_M) (v2 : Int32) : Option (Int32 × wg_M) := wg_ga 14 (σ 58) v2 (q_X8_measureRows_20__3 k10 n x1 x2 x3 σ)
def q_X8_measureRows_20__1 (k10 : Nat → Int32 → wg_M → Option (Int32 × wg_M)) (σ : wg_M) (v1 : Int32) : Option (Int32 × wg_M) := k10 49 v1 σ
theorem e_X8_measureRows_20__1 (k10 : Nat → Int32 → wg_M → Option (Int32 × wg_M)) (σ : wg_M) (v1 : Int32) : q_X8_measureRows_20__1 k10 σ v1 = k10 49 v1 σ := rfl
theorem e_X8_measureRows_20__2 (k10 : Nat → Int32 → wg_M → Option (Int32 × wg_M)) (n : Nat) (x1 : Int32) (x2 : Int32) (x3 : Int32) (σ : wg_M) (v2 : Int32) : q_X8_measureRows_20__2 k10 n x1 x2 x3 σ v2 = wg_ga 14 (σ 58) v2 (q_X8_measureRows_20__3 k10 n x1 x2 x3 σ) := rfl
theorem e_X8_measureRows_20__3 (k10 : Nat → Int32 → wg_M → Option (Int32 × wg_M)) (n : Nat) (x1 : Int32) (x2 : Int32) (x3 : Int32) (σ : wg_M) (v3 : Int32) : q_X8_measureRows_20__3 k10 n x1 x2 x3 σ v3 = wg_ga 16 (σ 54) x3 (q_X8_measureRows_20__4 k10 n x1 x2 x3 σ v3) := rfl
theorem e_X8_measureRows_20__4 (k10 : Nat → Int32 → wg_M → Option (Int32 × wg_M)) (n : Nat) (x1 : Int32) (x2 : Int32) (x3 : Int32) (σ : wg_M) (v3 : Int32) (v4 : Int32) : q_X8_measureRows_20__4 k10 n x1 x2 x3 σ v3 v4 = wg_ga 14 (σ 58) v4 (q_X8_measureRows_20__5 k10 n x1 x2 x3 σ v3) := rfl
theorem e_X8_measureRows_20__5 (k10 : Nat → Int32 → wg_M → Option (Int32 × wg_M)) (n : Nat) (x1 : Int32) (x2 : Int32) (x3 : Int32) (σ : wg_M) (v3 : Int32) (v5 : Int32) : q_X8_measureRows_20__5 k10 n x1 x2 x3 σ v3 v5 = if v5 < v3 then (f_X8_measureRows_79 (f_X8_measureRows_20 k10 n) 49 x1 x2 x3 σ) else (wg_ga 16 (σ 53) x3 (q_X8_measureRows_20__6 k10 n x1 x3 σ)) := rfl
theorem e_X8_measureRows_20__6 (k10 : Nat → Int32 → wg_M → Option (Int32 × wg_M)) (n : Nat) (x1 : Int32) (x3 : Int32) (σ : wg_M) (v6 : Int32) : q_X8_measureRows_20__6 k10 n x1 x3 σ v6 = wg_ga 16 (σ 54) x3 (q_X8_measureRows_20__7 k10 n x1 x3 σ v6) := rfl
theorem e_X8_measureRows_20__7 (k10 : Nat → Int32 → wg_M → Option (Int32 × wg_M)) (n : Nat) (x1 : Int32) (x3 : Int32) (σ : wg_M) (v6 : Int32) (v7 : Int32) : q_X8_measureRows_20__7 k10 n x1 x3 σ v6 v7 = wg_ga 14 (σ 58) v7 (q_X8_measureRows_20__8 k10 n x1 x3 σ v6) := rfl
theorem e_X8_measureRows_20__8 (k10 : Nat → Int32 → wg_M → Option (Int32 × wg_M)) (n : Nat) (x1 : Int32) (x3 : Int32) (σ : wg_M) (v6 : Int32) (v8 : Int32) : q_X8_measureRows_20__8 k10 n x1 x3 σ v6 v8 = wg_sa 14 σ 58 v6 (v8 + (1 : Int32)) (q_X8_measureRows_20__9 k10 n x1 x3) := rfl
theorem e_X8_measureRows_20__9 (k10 : Nat → Int32 → wg_M → Option (Int32 × wg_M)) (n : Nat) (x1 : Int32) (x3 : Int32) (s9 : wg_M) : q_X8_measureRows_20__9 k10 n x1 x3 s9 = f_X8_measureRows_79 (f_X8_measureRows_20 k10 n) 49 x1 (1 : Int32) x3 s9 := rfl
theorem e_X8_measureRows_20 (k10 : Nat → Int32 → wg_M → Option (Int32 × wg_M)) (n : Nat) (x1 : Int32) (x2 : Int32) (x3 : Int32) (σ : wg_M) : f_X8_measureRows_20 k10 (n + 1) 49 x1 x2 x3 σ = if (σ 49 6) ≤ x3 then (if x2 = 0 then (some ((1 : Int32), σ)) else (wg_let (x1 + (1 : Int32)) (q_X8_measureRows_20__1 k10 σ))) else (wg_ga 16 (σ 53) x3 (q_X8_measureRows_20__2 k10 n x1 x2 x3 σ)) := by
  rw [f_X8_measureRows_20]
  simp only [sc_n53, sc_n54, sc_n58, sc_r49_4, sc_r49_5, sc_r49_11]
  rfl
theorem e_X8_measureRows_10 (n : Nat) (x1 : Int32) (σ : wg_M) : f_X8_measureRows_10 (n + 1) 49 x1 σ = if (14 : Int32) ≤ x1 then (some ((0 : Int32), σ)) else (f_X8_measureRows_20 (f_X8_measureRows_10  n) wg_N 49 x1 (0 : Int32) (0 : Int32) σ) := by
  rw [f_X8_measureRows_10]
def q_X8_measureRows__1 (_u1 : Int32) (s1 : wg_M) : Option (Int32 × wg_M) := f_X8_measureRows_10  wg_N 49 (0 : Int32) s1
theorem e_X8_measureRows__1 (_u1 : Int32) (s1 : wg_M) : q_X8_measureRows__1 _u1 s1 = f_X8_measureRows_10  wg_N 49 (0 : Int32) s1 := rfl
theorem e_X8_measureRows (σ : wg_M) : f_X8_measureRows 49 σ = wg_bd (f_J7_fill_53178 58 (1 : Int32) σ) q_X8_measureRows__1 := by
  unfold f_X8_measureRows
  simp only [sc_r49_11]
  rfl
def q_X8_longestRow_53__1 (k30 : Nat → Int32 → Int32 → Int32 → wg_M → Option (Int32 × wg_M)) (x1 : Int32) (x2 : Int32) (σ : wg_M) (v1 : Int32) : Option (Int32 × wg_M) := k30 49 x1 x2 v1 σ
theorem e_X8_longestRow_53__1 (k30 : Nat → Int32 → Int32 → Int32 → wg_M → Option (Int32 × wg_M)) (x1 : Int32) (x2 : Int32) (σ : wg_M) (v1 : Int32) : q_X8_longestRow_53__1 k30 x1 x2 σ v1 = k30 49 x1 x2 v1 σ := rfl
theorem e_X8_longestRow_53 (k30 : Nat → Int32 → Int32 → Int32 → wg_M → Option (Int32 × wg_M)) (x1 : Int32) (x2 : Int32) (x3 : Int32) (σ : wg_M) : f_X8_longestRow_53 k30 49 x1 x2 x3 σ = wg_let (x3 + (1 : Int32)) (q_X8_longestRow_53__1 k30 x1 x2 σ) := rfl
def q_X8_longestRow_30__3 (n : Nat) (x1 : Int32) (x2 : Int32) (x3 : Int32) (σ : wg_M) (v2 : Int32) (v3 : Int32) : Option (Int32 × wg_M) := if v2 ≤ v3 then (f_X8_longestRow_53 (f_X8_longestRow_30  n) 49 x1 x2 x3 σ) else (f_X8_longestRow_53 (f_X8_longestRow_30  n) 49 x1 x3 x3 σ)
def q_X8_longestRow_30__2 (n : Nat) (x1 : Int32) (x2 : Int32) (x3 : Int32) (σ : wg_M) (v2 : Int32) : Option (Int32 × wg_M) := wg_ga 14 (σ 58) x2 (q_X8_longestRow_30__3 n x1 x2 x3 σ v2)
def q_X8_longestRow_30__1 (σ : wg_M) (v1 : Int32) : Option (Int32 × wg_M) := some (v1, σ)
theorem e_X8_longestRow_30__1 (σ : wg_M) (v1 : Int32) : q_X8_longestRow_30__1 σ v1 = some (v1, σ) := rfl
theorem e_X8_longestRow_30__2 (n : Nat) (x1 : Int32) (x2 : Int32) (x3 : Int32) (σ : wg_M) (v2 : Int32) : q_X8_longestRow_30__2 n x1 x2 x3 σ v2 = wg_ga 14 (σ 58) x2 (q_X8_longestRow_30__3 n x1 x2 x3 σ v2) := rfl
theorem e_X8_longestRow_30__3 (n : Nat) (x1 : Int32) (x2 : Int32) (x3 : Int32) (σ : wg_M) (v2 : Int32) (v3 : Int32) : q_X8_longestRow_30__3 n x1 x2 x3 σ v2 v3 = if v2 ≤ v3 then (f_X8_longestRow_53 (f_X8_longestRow_30  n) 49 x1 x2 x3 σ) else (f_X8_longestRow_53 (f_X8_longestRow_30  n) 49 x1 x3 x3 σ) := rfl
theorem e_X8_longestRow_30 (n : Nat) (x1 : Int32) (x2 : Int32) (x3 : Int32) (σ : wg_M) : f_X8_longestRow_30 (n + 1) 49 x1 x2 x3 σ = if (14 : Int32) ≤ x3 then (if x1 = 0 then (wg_ga 14 (σ 58) x2 (q_X8_longestRow_30__1 σ)) else (some (x2, σ))) else (wg_ga 14 (σ 58) x3 (q_X8_longestRow_30__2 n x1 x2 x3 σ)) := by
  rw [f_X8_longestRow_30]
  simp only [sc_n58, sc_r49_11]
  rfl
def q_X8_longestRow__1 (x1 : Int32) (v1 : Int32) (s2 : wg_M) : Option (Int32 × wg_M) := if v1 = 0 then (some ((-1 : Int32), s2)) else (if (s2 49 6) = 0 then (if x1 = 0 then (some ((0 : Int32), s2)) else (some ((-1 : Int32), s2))) else (f_X8_longestRow_30  wg_N 49 x1 (0 : Int32) (1 : Int32) s2))
theorem e_X8_longestRow__1 (x1 : Int32) (v1 : Int32) (s2 : wg_M) : q_X8_longestRow__1 x1 v1 s2 = if v1 = 0 then (some ((-1 : Int32), s2)) else (if (s2 49 6) = 0 then (if x1 = 0 then (some ((0 : Int32), s2)) else (some ((-1 : Int32), s2))) else (f_X8_longestRow_30  wg_N 49 x1 (0 : Int32) (1 : Int32) s2)) := rfl
theorem e_X8_longestRow (x1 : Int32) (σ : wg_M) : f_X8_longestRow 49 x1 σ = wg_bd (f_X8_measureRows 49 σ) (q_X8_longestRow__1 x1) := rfl
def q_X8_worthOf_6__3 (n : Nat) (x1 : Int32) (x3 : Int32) (σ : wg_M) (v2 : Int32) (v3 : Int32) : Option (Int32 × wg_M) := f_X8_worthOf_6  n 49 x1 x3 v2 v3 σ
def q_X8_worthOf_6__2 (n : Nat) (x1 : Int32) (x3 : Int32) (x5 : Int32) (σ : wg_M) (v2 : Int32) : Option (Int32 × wg_M) := wg_let (x5 + (1 : Int32)) (q_X8_worthOf_6__3 n x1 x3 σ v2)
def q_X8_worthOf_6__1 (n : Nat) (x1 : Int32) (x3 : Int32) (x4 : Int32) (x5 : Int32) (σ : wg_M) (v1 : Int32) : Option (Int32 × wg_M) := wg_let (x4 + v1) (q_X8_worthOf_6__2 n x1 x3 x5 σ)
theorem e_X8_worthOf_6__1 (n : Nat) (x1 : Int32) (x3 : Int32) (x4 : Int32) (x5 : Int32) (σ : wg_M) (v1 : Int32) : q_X8_worthOf_6__1 n x1 x3 x4 x5 σ v1 = wg_let (x4 + v1) (q_X8_worthOf_6__2 n x1 x3 x5 σ) := rfl
theorem e_X8_worthOf_6__2 (n : Nat) (x1 : Int32) (x3 : Int32) (x5 : Int32) (σ : wg_M) (v2 : Int32) : q_X8_worthOf_6__2 n x1 x3 x5 σ v2 = wg_let (x5 + (1 : Int32)) (q_X8_worthOf_6__3 n x1 x3 σ v2) := rfl
theorem e_X8_worthOf_6__3 (n : Nat) (x1 : Int32) (x3 : Int32) (σ : wg_M) (v2 : Int32) (v3 : Int32) : q_X8_worthOf_6__3 n x1 x3 σ v2 v3 = f_X8_worthOf_6  n 49 x1 x3 v2 v3 σ := rfl
theorem e_X8_worthOf_6 (n : Nat) (x1 : Int32) (x3 : Int32) (x4 : Int32) (x5 : Int32) (σ : wg_M) : f_X8_worthOf_6 (n + 1) 49 x1 x3 x4 x5 σ = if x3 ≤ x5 then (some (x4, σ)) else (wg_ga 20 (σ 55) ((x1 * (10 : Int32)) + x5) (q_X8_worthOf_6__1 n x1 x3 x4 x5 σ)) := by
  rw [f_X8_worthOf_6]
  simp only [sc_n55, sc_r49_7]
  rfl
theorem e_X8_worthOf (x1 : Int32) (x2 : Int32) (x3 : Int32) (σ : wg_M) : f_X8_worthOf 49 x1 x2 x3 σ = f_X8_worthOf_6  wg_N 49 x1 x3 (0 : Int32) x2 σ := rfl
def q_X8_cutPlace_43__1 (k6 : Nat → Int32 → Int32 → Int32 → wg_M → Option (Int32 × wg_M)) (x1 : Int32) (x2 : Int32) (σ : wg_M) (v1 : Int32) : Option (Int32 × wg_M) := k6 49 x1 x2 v1 σ
theorem e_X8_cutPlace_43__1 (k6 : Nat → Int32 → Int32 → Int32 → wg_M → Option (Int32 × wg_M)) (x1 : Int32) (x2 : Int32) (σ : wg_M) (v1 : Int32) : q_X8_cutPlace_43__1 k6 x1 x2 σ v1 = k6 49 x1 x2 v1 σ := rfl
theorem e_X8_cutPlace_43 (k6 : Nat → Int32 → Int32 → Int32 → wg_M → Option (Int32 × wg_M)) (x1 : Int32) (x2 : Int32) (x3 : Int32) (σ : wg_M) : f_X8_cutPlace_43 k6 49 x1 x2 x3 σ = wg_let (x3 + (1 : Int32)) (q_X8_cutPlace_43__1 k6 x1 x2 σ) := rfl
def q_X8_cutPlace_6__3 (n : Nat) (x1 : Int32) (x2 : Int32) (x3 : Int32) (v5 : Int32) (s6 : wg_M) : Option (Int32 × wg_M) := if v5 ≤ x2 then (f_X8_cutPlace_43 (f_X8_cutPlace_6  n) 49 x1 x2 x3 s6) else (f_X8_cutPlace_43 (f_X8_cutPlace_6  n) 49 x3 v5 x3 s6)
def q_X8_cutPlace_6__2 (n : Nat) (x1 : Int32) (x2 : Int32) (x3 : Int32) (v1 : Int32) (v3 : Int32) (s4 : wg_M) : Option (Int32 × wg_M) := wg_bd (f_J9_min_7cf53 v1 v3 s4) (q_X8_cutPlace_6__3 n x1 x2 x3)
def q_X8_cutPlace_6__1 (n : Nat) (x1 : Int32) (x2 : Int32) (x3 : Int32) (v1 : Int32) (s2 : wg_M) : Option (Int32 × wg_M) := wg_bd (f_X8_worthOf 49 (0 : Int32) x3 (10 : Int32) s2) (q_X8_cutPlace_6__2 n x1 x2 x3 v1)
theorem e_X8_cutPlace_6__1 (n : Nat) (x1 : Int32) (x2 : Int32) (x3 : Int32) (v1 : Int32) (s2 : wg_M) : q_X8_cutPlace_6__1 n x1 x2 x3 v1 s2 = wg_bd (f_X8_worthOf 49 (0 : Int32) x3 (10 : Int32) s2) (q_X8_cutPlace_6__2 n x1 x2 x3 v1) := rfl
theorem e_X8_cutPlace_6__2 (n : Nat) (x1 : Int32) (x2 : Int32) (x3 : Int32) (v1 : Int32) (v3 : Int32) (s4 : wg_M) : q_X8_cutPlace_6__2 n x1 x2 x3 v1 v3 s4 = wg_bd (f_J9_min_7cf53 v1 v3 s4) (q_X8_cutPlace_6__3 n x1 x2 x3) := rfl
theorem e_X8_cutPlace_6__3 (n : Nat) (x1 : Int32) (x2 : Int32) (x3 : Int32) (v5 : Int32) (s6 : wg_M) : q_X8_cutPlace_6__3 n x1 x2 x3 v5 s6 = if v5 ≤ x2 then (f_X8_cutPlace_43 (f_X8_cutPlace_6  n) 49 x1 x2 x3 s6) else (f_X8_cutPlace_43 (f_X8_cutPlace_6  n) 49 x3 v5 x3 s6) := rfl
theorem e_X8_cutPlace_6 (n : Nat) (x1 : Int32) (x2 : Int32) (x3 : Int32) (σ : wg_M) : f_X8_cutPlace_6 (n + 1) 49 x1 x2 x3 σ = if (10 : Int32) ≤ x3 then (some (x1, σ)) else (wg_bd (f_X8_worthOf 49 (0 : Int32) (0 : Int32) x3 σ) (q_X8_cutPlace_6__1 n x1 x2 x3)) := by
  rw [f_X8_cutPlace_6]
  rfl
theorem e_X8_cutPlace (σ : wg_M) : f_X8_cutPlace 49 σ = f_X8_cutPlace_6  wg_N 49 (1 : Int32) (-1 : Int32) (1 : Int32) σ := rfl
def q_X8_otherHas__4 (v7 : Int32) (s8 : wg_M) : Option (Int32 × wg_M) := some (v7, s8)
def q_X8_otherHas__3 (v3 : Int32) (v5 : Int32) (s6 : wg_M) : Option (Int32 × wg_M) := wg_bd (f_J9_max_7cf53 v3 v5 s6) q_X8_otherHas__4
def q_X8_otherHas__2 (v1 : Int32) (v3 : Int32) (s4 : wg_M) : Option (Int32 × wg_M) := wg_bd (f_X8_worthOf 49 (1 : Int32) v1 (10 : Int32) s4) (q_X8_otherHas__3 v3)
def q_X8_otherHas__1 (v1 : Int32) (s2 : wg_M) : Option (Int32 × wg_M) := wg_bd (f_X8_worthOf 49 (1 : Int32) (0 : Int32) v1 s2) (q_X8_otherHas__2 v1)
theorem e_X8_otherHas__1 (v1 : Int32) (s2 : wg_M) : q_X8_otherHas__1 v1 s2 = wg_bd (f_X8_worthOf 49 (1 : Int32) (0 : Int32) v1 s2) (q_X8_otherHas__2 v1) := rfl
theorem e_X8_otherHas__2 (v1 : Int32) (v3 : Int32) (s4 : wg_M) : q_X8_otherHas__2 v1 v3 s4 = wg_bd (f_X8_worthOf 49 (1 : Int32) v1 (10 : Int32) s4) (q_X8_otherHas__3 v3) := rfl
theorem e_X8_otherHas__3 (v3 : Int32) (v5 : Int32) (s6 : wg_M) : q_X8_otherHas__3 v3 v5 s6 = wg_bd (f_J9_max_7cf53 v3 v5 s6) q_X8_otherHas__4 := rfl
theorem e_X8_otherHas__4 (v7 : Int32) (s8 : wg_M) : q_X8_otherHas__4 v7 s8 = some (v7, s8) := rfl
theorem e_X8_otherHas (σ : wg_M) : f_X8_otherHas 49 σ = wg_bd (f_X8_cutPlace 49 σ) q_X8_otherHas__1 := rfl
def q_X8_oneHas_28__2 (v3 : Int32) (s4 : wg_M) : Option (Int32 × wg_M) := some (v3, s4)
def q_X8_oneHas_28__1 (v1 : Int32) (s2 : wg_M) : Option (Int32 × wg_M) := some (v1, s2)
theorem e_X8_oneHas_28__1 (v1 : Int32) (s2 : wg_M) : q_X8_oneHas_28__1 v1 s2 = some (v1, s2) := rfl
theorem e_X8_oneHas_28__2 (v3 : Int32) (s4 : wg_M) : q_X8_oneHas_28__2 v3 s4 = some (v3, s4) := rfl
theorem e_X8_oneHas_28 (x1 : Int32) (t0 : Int32) (σ : wg_M) : f_X8_oneHas_28 49 x1 t0 σ = if t0 = 0 then (wg_bd (f_X8_worthOf 49 (0 : Int32) (0 : Int32) x1 σ) q_X8_oneHas_28__1) else (wg_bd (f_X8_worthOf 49 (0 : Int32) x1 (10 : Int32) σ) q_X8_oneHas_28__2) := rfl
def q_X8_oneHas__3 (v1 : Int32) (v3 : Int32) (v5 : Int32) (s6 : wg_M) : Option (Int32 × wg_M) := if v3 < v5 then (f_X8_oneHas_28  49 v1 (0 : Int32) s6) else (f_X8_oneHas_28  49 v1 (1 : Int32) s6)
def q_X8_oneHas__2 (v1 : Int32) (v3 : Int32) (s4 : wg_M) : Option (Int32 × wg_M) := wg_bd (f_X8_worthOf 49 (1 : Int32) v1 (10 : Int32) s4) (q_X8_oneHas__3 v1 v3)
def q_X8_oneHas__1 (v1 : Int32) (s2 : wg_M) : Option (Int32 × wg_M) := wg_bd (f_X8_worthOf 49 (1 : Int32) (0 : Int32) v1 s2) (q_X8_oneHas__2 v1)
theorem e_X8_oneHas__1 (v1 : Int32) (s2 : wg_M) : q_X8_oneHas__1 v1 s2 = wg_bd (f_X8_worthOf 49 (1 : Int32) (0 : Int32) v1 s2) (q_X8_oneHas__2 v1) := rfl
theorem e_X8_oneHas__2 (v1 : Int32) (v3 : Int32) (s4 : wg_M) : q_X8_oneHas__2 v1 v3 s4 = wg_bd (f_X8_worthOf 49 (1 : Int32) v1 (10 : Int32) s4) (q_X8_oneHas__3 v1 v3) := rfl
theorem e_X8_oneHas__3 (v1 : Int32) (v3 : Int32) (v5 : Int32) (s6 : wg_M) : q_X8_oneHas__3 v1 v3 v5 s6 = if v3 < v5 then (f_X8_oneHas_28  49 v1 (0 : Int32) s6) else (f_X8_oneHas_28  49 v1 (1 : Int32) s6) := rfl
theorem e_X8_oneHas (σ : wg_M) : f_X8_oneHas 49 σ = wg_bd (f_X8_cutPlace 49 σ) q_X8_oneHas__1 := rfl
def q_X8_soonestDue_42__1 (k4 : Nat → Int32 → Int32 → Int32 → wg_M → Option (Int32 × wg_M)) (x1 : Int32) (x2 : Int32) (σ : wg_M) (v1 : Int32) : Option (Int32 × wg_M) := k4 49 x1 x2 v1 σ
theorem e_X8_soonestDue_42__1 (k4 : Nat → Int32 → Int32 → Int32 → wg_M → Option (Int32 × wg_M)) (x1 : Int32) (x2 : Int32) (σ : wg_M) (v1 : Int32) : q_X8_soonestDue_42__1 k4 x1 x2 σ v1 = k4 49 x1 x2 v1 σ := rfl
theorem e_X8_soonestDue_42 (k4 : Nat → Int32 → Int32 → Int32 → wg_M → Option (Int32 × wg_M)) (x1 : Int32) (x2 : Int32) (x3 : Int32) (σ : wg_M) : f_X8_soonestDue_42 k4 49 x1 x2 x3 σ = wg_let (x3 + (1 : Int32)) (q_X8_soonestDue_42__1 k4 x1 x2 σ) := rfl
theorem e_X8_soonestDue_40 (k4 : Nat → Int32 → Int32 → Int32 → wg_M → Option (Int32 × wg_M)) (x1 : Int32) (x3 : Int32) (σ : wg_M) : f_X8_soonestDue_40 k4 49 x1 x3 σ = f_X8_soonestDue_42 k4 49 x1 x3 x3 σ := rfl
def q_X8_soonestDue_4__2 (n : Nat) (x1 : Int32) (x2 : Int32) (x3 : Int32) (σ : wg_M) (v1 : Int32) (v2 : Int32) : Option (Int32 × wg_M) := if v2 ≤ v1 then (f_X8_soonestDue_42 (f_X8_soonestDue_4  n) 49 x1 x2 x3 σ) else (f_X8_soonestDue_40 (f_X8_soonestDue_4  n) 49 x1 x3 σ)
def q_X8_soonestDue_4__1 (n : Nat) (x1 : Int32) (x2 : Int32) (x3 : Int32) (σ : wg_M) (v1 : Int32) : Option (Int32 × wg_M) := wg_ga 7 (σ 57) x2 (q_X8_soonestDue_4__2 n x1 x2 x3 σ v1)
theorem e_X8_soonestDue_4__1 (n : Nat) (x1 : Int32) (x2 : Int32) (x3 : Int32) (σ : wg_M) (v1 : Int32) : q_X8_soonestDue_4__1 n x1 x2 x3 σ v1 = wg_ga 7 (σ 57) x2 (q_X8_soonestDue_4__2 n x1 x2 x3 σ v1) := rfl
theorem e_X8_soonestDue_4__2 (n : Nat) (x1 : Int32) (x2 : Int32) (x3 : Int32) (σ : wg_M) (v1 : Int32) (v2 : Int32) : q_X8_soonestDue_4__2 n x1 x2 x3 σ v1 v2 = if v2 ≤ v1 then (f_X8_soonestDue_42 (f_X8_soonestDue_4  n) 49 x1 x2 x3 σ) else (f_X8_soonestDue_40 (f_X8_soonestDue_4  n) 49 x1 x3 σ) := rfl
theorem e_X8_soonestDue_4 (n : Nat) (x1 : Int32) (x2 : Int32) (x3 : Int32) (σ : wg_M) : f_X8_soonestDue_4 (n + 1) 49 x1 x2 x3 σ = if (σ 49 10) ≤ x3 then (some (x2, σ)) else (if ((x1 >>> (x3 &&& 31)) &&& (1 : Int32)) = 0 then (if x2 = (-1 : Int32) then (f_X8_soonestDue_40 (f_X8_soonestDue_4  n) 49 x1 x3 σ) else (wg_ga 7 (σ 57) x3 (q_X8_soonestDue_4__1 n x1 x2 x3 σ))) else (f_X8_soonestDue_42 (f_X8_soonestDue_4  n) 49 x1 x2 x3 σ)) := by
  rw [f_X8_soonestDue_4]
  simp only [sc_n57, sc_r49_9]
  rfl
theorem e_X8_soonestDue (x1 : Int32) (σ : wg_M) : f_X8_soonestDue 49 x1 σ = f_X8_soonestDue_4  wg_N 49 x1 (-1 : Int32) (0 : Int32) σ := rfl
def q_X8_lateness_11__7 (n : Nat) (v3 : Int32) (v5 : Int32) (v7 : Int32) (s8 : wg_M) (v9 : Int32) : Option (Int32 × wg_M) := f_X8_lateness_11  n 49 v7 v3 v5 v9 s8
def q_X8_lateness_11__6 (n : Nat) (x6 : Int32) (v3 : Int32) (v5 : Int32) (v7 : Int32) (s8 : wg_M) : Option (Int32 × wg_M) := wg_let (x6 + (1 : Int32)) (q_X8_lateness_11__7 n v3 v5 v7 s8)
def q_X8_lateness_11__5 (n : Nat) (x3 : Int32) (x6 : Int32) (s2 : wg_M) (v3 : Int32) (v5 : Int32) (v6 : Int32) : Option (Int32 × wg_M) := wg_bd (f_J9_max_7cf53 x3 (v5 - v6) s2) (q_X8_lateness_11__6 n x6 v3 v5)
def q_X8_lateness_11__4 (n : Nat) (x3 : Int32) (x6 : Int32) (v1 : Int32) (s2 : wg_M) (v3 : Int32) (v5 : Int32) : Option (Int32 × wg_M) := wg_ga 7 (s2 57) v1 (q_X8_lateness_11__5 n x3 x6 s2 v3 v5)
def q_X8_lateness_11__3 (n : Nat) (x3 : Int32) (x5 : Int32) (x6 : Int32) (v1 : Int32) (s2 : wg_M) (v3 : Int32) (v4 : Int32) : Option (Int32 × wg_M) := wg_let (x5 + v4) (q_X8_lateness_11__4 n x3 x6 v1 s2 v3)
def q_X8_lateness_11__2 (n : Nat) (x3 : Int32) (x5 : Int32) (x6 : Int32) (v1 : Int32) (s2 : wg_M) (v3 : Int32) : Option (Int32 × wg_M) := wg_ga 7 (s2 56) v1 (q_X8_lateness_11__3 n x3 x5 x6 v1 s2 v3)
def q_X8_lateness_11__1 (n : Nat) (x3 : Int32) (x4 : Int32) (x5 : Int32) (x6 : Int32) (v1 : Int32) (s2 : wg_M) : Option (Int32 × wg_M) := if v1 = (-1 : Int32) then (some (x3, s2)) else (wg_let (x4 ||| ((1 : Int32) <<< (v1 &&& 31))) (q_X8_lateness_11__2 n x3 x5 x6 v1 s2))
theorem e_X8_lateness_11__1 (n : Nat) (x3 : Int32) (x4 : Int32) (x5 : Int32) (x6 : Int32) (v1 : Int32) (s2 : wg_M) : q_X8_lateness_11__1 n x3 x4 x5 x6 v1 s2 = if v1 = (-1 : Int32) then (some (x3, s2)) else (wg_let (x4 ||| ((1 : Int32) <<< (v1 &&& 31))) (q_X8_lateness_11__2 n x3 x5 x6 v1 s2)) := rfl
theorem e_X8_lateness_11__2 (n : Nat) (x3 : Int32) (x5 : Int32) (x6 : Int32) (v1 : Int32) (s2 : wg_M) (v3 : Int32) : q_X8_lateness_11__2 n x3 x5 x6 v1 s2 v3 = wg_ga 7 (s2 56) v1 (q_X8_lateness_11__3 n x3 x5 x6 v1 s2 v3) := rfl
theorem e_X8_lateness_11__3 (n : Nat) (x3 : Int32) (x5 : Int32) (x6 : Int32) (v1 : Int32) (s2 : wg_M) (v3 : Int32) (v4 : Int32) : q_X8_lateness_11__3 n x3 x5 x6 v1 s2 v3 v4 = wg_let (x5 + v4) (q_X8_lateness_11__4 n x3 x6 v1 s2 v3) := rfl
theorem e_X8_lateness_11__4 (n : Nat) (x3 : Int32) (x6 : Int32) (v1 : Int32) (s2 : wg_M) (v3 : Int32) (v5 : Int32) : q_X8_lateness_11__4 n x3 x6 v1 s2 v3 v5 = wg_ga 7 (s2 57) v1 (q_X8_lateness_11__5 n x3 x6 s2 v3 v5) := rfl
theorem e_X8_lateness_11__5 (n : Nat) (x3 : Int32) (x6 : Int32) (s2 : wg_M) (v3 : Int32) (v5 : Int32) (v6 : Int32) : q_X8_lateness_11__5 n x3 x6 s2 v3 v5 v6 = wg_bd (f_J9_max_7cf53 x3 (v5 - v6) s2) (q_X8_lateness_11__6 n x6 v3 v5) := rfl
theorem e_X8_lateness_11__6 (n : Nat) (x6 : Int32) (v3 : Int32) (v5 : Int32) (v7 : Int32) (s8 : wg_M) : q_X8_lateness_11__6 n x6 v3 v5 v7 s8 = wg_let (x6 + (1 : Int32)) (q_X8_lateness_11__7 n v3 v5 v7 s8) := rfl
theorem e_X8_lateness_11__7 (n : Nat) (v3 : Int32) (v5 : Int32) (v7 : Int32) (s8 : wg_M) (v9 : Int32) : q_X8_lateness_11__7 n v3 v5 v7 s8 v9 = f_X8_lateness_11  n 49 v7 v3 v5 v9 s8 := rfl
theorem e_X8_lateness_11 (n : Nat) (x3 : Int32) (x4 : Int32) (x5 : Int32) (x6 : Int32) (σ : wg_M) : f_X8_lateness_11 (n + 1) 49 x3 x4 x5 x6 σ = if (σ 49 10) ≤ x6 then (some (x3, σ)) else (wg_bd (f_X8_soonestDue 49 x4 σ) (q_X8_lateness_11__1 n x3 x4 x5 x6)) := by
  rw [f_X8_lateness_11]
  simp only [sc_n56, sc_n57, sc_r49_8, sc_r49_9]
  rfl
theorem e_X8_lateness (x1 : Int32) (x2 : Int32) (σ : wg_M) : f_X8_lateness 49 x1 x2 σ = f_X8_lateness_11  wg_N 49 (0 : Int32) x1 x2 (0 : Int32) σ := rfl
def q_X8_leastThatKeeps_67__1 (k3 : Nat → Int32 → Int32 → Int32 → Int32 → wg_M → Option (Int32 × wg_M)) (x1 : Int32) (x2 : Int32) (x3 : Int32) (σ : wg_M) (v1 : Int32) : Option (Int32 × wg_M) := k3 49 x1 x2 x3 v1 σ
theorem e_X8_leastThatKeeps_67__1 (k3 : Nat → Int32 → Int32 → Int32 → Int32 → wg_M → Option (Int32 × wg_M)) (x1 : Int32) (x2 : Int32) (x3 : Int32) (σ : wg_M) (v1 : Int32) : q_X8_leastThatKeeps_67__1 k3 x1 x2 x3 σ v1 = k3 49 x1 x2 x3 v1 σ := rfl
theorem e_X8_leastThatKeeps_67 (k3 : Nat → Int32 → Int32 → Int32 → Int32 → wg_M → Option (Int32 × wg_M)) (x1 : Int32) (x2 : Int32) (x3 : Int32) (x4 : Int32) (t0 : Int32) (σ : wg_M) : f_X8_leastThatKeeps_67 k3 49 x1 x2 x3 x4 t0 σ = if t0 = 0 then (wg_let (x4 + (1 : Int32)) (q_X8_leastThatKeeps_67__1 k3 x1 x2 x3 σ)) else (some (x4, σ)) := rfl
theorem e_X8_leastThatKeeps_66 (k3 : Nat → Int32 → Int32 → Int32 → Int32 → wg_M → Option (Int32 × wg_M)) (x1 : Int32) (x2 : Int32) (x3 : Int32) (x4 : Int32) (σ : wg_M) : f_X8_leastThatKeeps_66 k3 49 x1 x2 x3 x4 σ = f_X8_leastThatKeeps_67 k3 49 x1 x2 x3 x4 (0 : Int32) σ := rfl
def q_X8_leastThatKeeps_3__4 (n : Nat) (x1 : Int32) (x2 : Int32) (x3 : Int32) (x4 : Int32) (v4 : Int32) (s5 : wg_M) : Option (Int32 × wg_M) := if x1 < v4 then (f_X8_leastThatKeeps_66 (f_X8_leastThatKeeps_3  n) 49 x1 x2 x3 x4 s5) else (f_X8_leastThatKeeps_67 (f_X8_leastThatKeeps_3  n) 49 x1 x2 x3 x4 (1 : Int32) s5)
def q_X8_leastThatKeeps_3__3 (n : Nat) (x1 : Int32) (x2 : Int32) (x3 : Int32) (x4 : Int32) (σ : wg_M) (v2 : Int32) (v3 : Int32) : Option (Int32 × wg_M) := if x1 < (v2 - v3) then (f_X8_leastThatKeeps_66 (f_X8_leastThatKeeps_3  n) 49 x1 x2 x3 x4 σ) else (wg_bd (f_X8_lateness 49 (x2 ||| ((1 : Int32) <<< (x4 &&& 31))) v2 σ) (q_X8_leastThatKeeps_3__4 n x1 x2 x3 x4))
def q_X8_leastThatKeeps_3__2 (n : Nat) (x1 : Int32) (x2 : Int32) (x3 : Int32) (x4 : Int32) (σ : wg_M) (v2 : Int32) : Option (Int32 × wg_M) := if ((x2 >>> (x4 &&& 31)) &&& (1 : Int32)) = 0 then (wg_ga 7 (σ 57) x4 (q_X8_leastThatKeeps_3__3 n x1 x2 x3 x4 σ v2)) else (f_X8_leastThatKeeps_66 (f_X8_leastThatKeeps_3  n) 49 x1 x2 x3 x4 σ)
def q_X8_leastThatKeeps_3__1 (n : Nat) (x1 : Int32) (x2 : Int32) (x3 : Int32) (x4 : Int32) (σ : wg_M) (v1 : Int32) : Option (Int32 × wg_M) := wg_let (x3 + v1) (q_X8_leastThatKeeps_3__2 n x1 x2 x3 x4 σ)
theorem e_X8_leastThatKeeps_3__1 (n : Nat) (x1 : Int32) (x2 : Int32) (x3 : Int32) (x4 : Int32) (σ : wg_M) (v1 : Int32) : q_X8_leastThatKeeps_3__1 n x1 x2 x3 x4 σ v1 = wg_let (x3 + v1) (q_X8_leastThatKeeps_3__2 n x1 x2 x3 x4 σ) := rfl
theorem e_X8_leastThatKeeps_3__2 (n : Nat) (x1 : Int32) (x2 : Int32) (x3 : Int32) (x4 : Int32) (σ : wg_M) (v2 : Int32) : q_X8_leastThatKeeps_3__2 n x1 x2 x3 x4 σ v2 = if ((x2 >>> (x4 &&& 31)) &&& (1 : Int32)) = 0 then (wg_ga 7 (σ 57) x4 (q_X8_leastThatKeeps_3__3 n x1 x2 x3 x4 σ v2)) else (f_X8_leastThatKeeps_66 (f_X8_leastThatKeeps_3  n) 49 x1 x2 x3 x4 σ) := rfl
theorem e_X8_leastThatKeeps_3__3 (n : Nat) (x1 : Int32) (x2 : Int32) (x3 : Int32) (x4 : Int32) (σ : wg_M) (v2 : Int32) (v3 : Int32) : q_X8_leastThatKeeps_3__3 n x1 x2 x3 x4 σ v2 v3 = if x1 < (v2 - v3) then (f_X8_leastThatKeeps_66 (f_X8_leastThatKeeps_3  n) 49 x1 x2 x3 x4 σ) else (wg_bd (f_X8_lateness 49 (x2 ||| ((1 : Int32) <<< (x4 &&& 31))) v2 σ) (q_X8_leastThatKeeps_3__4 n x1 x2 x3 x4)) := rfl
theorem e_X8_leastThatKeeps_3__4 (n : Nat) (x1 : Int32) (x2 : Int32) (x3 : Int32) (x4 : Int32) (v4 : Int32) (s5 : wg_M) : q_X8_leastThatKeeps_3__4 n x1 x2 x3 x4 v4 s5 = if x1 < v4 then (f_X8_leastThatKeeps_66 (f_X8_leastThatKeeps_3  n) 49 x1 x2 x3 x4 s5) else (f_X8_leastThatKeeps_67 (f_X8_leastThatKeeps_3  n) 49 x1 x2 x3 x4 (1 : Int32) s5) := rfl
theorem e_X8_leastThatKeeps_3 (n : Nat) (x1 : Int32) (x2 : Int32) (x3 : Int32) (x4 : Int32) (σ : wg_M) : f_X8_leastThatKeeps_3 (n + 1) 49 x1 x2 x3 x4 σ = if (σ 49 10) ≤ x4 then (some ((-1 : Int32), σ)) else (wg_ga 7 (σ 56) x4 (q_X8_leastThatKeeps_3__1 n x1 x2 x3 x4 σ)) := by
  rw [f_X8_leastThatKeeps_3]
  simp only [sc_n56, sc_n57, sc_r49_8, sc_r49_9]
  rfl
theorem e_X8_leastThatKeeps (x1 : Int32) (x2 : Int32) (x3 : Int32) (σ : wg_M) : f_X8_leastThatKeeps 49 x1 x2 x3 σ = f_X8_leastThatKeeps_3  wg_N 49 x1 x2 x3 (0 : Int32) σ := rfl
def q_X8_heardAt_18__5 (n : Nat) (x1 : Int32) (x2 : Int32) (v1 : Int32) (s2 : wg_M) (v3 : Int32) (v5 : Int32) (v6 : Int32) : Option (Int32 × wg_M) := f_X8_heardAt_18  n 49 x1 x2 v3 v5 v1 v6 s2
def q_X8_heardAt_18__4 (n : Nat) (x1 : Int32) (x2 : Int32) (x6 : Int32) (v1 : Int32) (s2 : wg_M) (v3 : Int32) (v5 : Int32) : Option (Int32 × wg_M) := wg_let (x6 + (1 : Int32)) (q_X8_heardAt_18__5 n x1 x2 v1 s2 v3 v5)
def q_X8_heardAt_18__3 (n : Nat) (x1 : Int32) (x2 : Int32) (x4 : Int32) (x6 : Int32) (v1 : Int32) (s2 : wg_M) (v3 : Int32) (v4 : Int32) : Option (Int32 × wg_M) := wg_let (x4 + v4) (q_X8_heardAt_18__4 n x1 x2 x6 v1 s2 v3)
def q_X8_heardAt_18__2 (n : Nat) (x1 : Int32) (x2 : Int32) (x4 : Int32) (x6 : Int32) (v1 : Int32) (s2 : wg_M) (v3 : Int32) : Option (Int32 × wg_M) := wg_ga 7 (s2 56) v1 (q_X8_heardAt_18__3 n x1 x2 x4 x6 v1 s2 v3)
def q_X8_heardAt_18__1 (n : Nat) (x1 : Int32) (x2 : Int32) (x3 : Int32) (x4 : Int32) (x6 : Int32) (v1 : Int32) (s2 : wg_M) : Option (Int32 × wg_M) := if v1 = (-1 : Int32) then (some ((-1 : Int32), s2)) else (wg_let (x3 ||| ((1 : Int32) <<< (v1 &&& 31))) (q_X8_heardAt_18__2 n x1 x2 x4 x6 v1 s2))
theorem e_X8_heardAt_18__1 (n : Nat) (x1 : Int32) (x2 : Int32) (x3 : Int32) (x4 : Int32) (x6 : Int32) (v1 : Int32) (s2 : wg_M) : q_X8_heardAt_18__1 n x1 x2 x3 x4 x6 v1 s2 = if v1 = (-1 : Int32) then (some ((-1 : Int32), s2)) else (wg_let (x3 ||| ((1 : Int32) <<< (v1 &&& 31))) (q_X8_heardAt_18__2 n x1 x2 x4 x6 v1 s2)) := rfl
theorem e_X8_heardAt_18__2 (n : Nat) (x1 : Int32) (x2 : Int32) (x4 : Int32) (x6 : Int32) (v1 : Int32) (s2 : wg_M) (v3 : Int32) : q_X8_heardAt_18__2 n x1 x2 x4 x6 v1 s2 v3 = wg_ga 7 (s2 56) v1 (q_X8_heardAt_18__3 n x1 x2 x4 x6 v1 s2 v3) := rfl
theorem e_X8_heardAt_18__3 (n : Nat) (x1 : Int32) (x2 : Int32) (x4 : Int32) (x6 : Int32) (v1 : Int32) (s2 : wg_M) (v3 : Int32) (v4 : Int32) : q_X8_heardAt_18__3 n x1 x2 x4 x6 v1 s2 v3 v4 = wg_let (x4 + v4) (q_X8_heardAt_18__4 n x1 x2 x6 v1 s2 v3) := rfl
theorem e_X8_heardAt_18__4 (n : Nat) (x1 : Int32) (x2 : Int32) (x6 : Int32) (v1 : Int32) (s2 : wg_M) (v3 : Int32) (v5 : Int32) : q_X8_heardAt_18__4 n x1 x2 x6 v1 s2 v3 v5 = wg_let (x6 + (1 : Int32)) (q_X8_heardAt_18__5 n x1 x2 v1 s2 v3 v5) := rfl
theorem e_X8_heardAt_18__5 (n : Nat) (x1 : Int32) (x2 : Int32) (v1 : Int32) (s2 : wg_M) (v3 : Int32) (v5 : Int32) (v6 : Int32) : q_X8_heardAt_18__5 n x1 x2 v1 s2 v3 v5 v6 = f_X8_heardAt_18  n 49 x1 x2 v3 v5 v1 v6 s2 := rfl
theorem e_X8_heardAt_18 (n : Nat) (x1 : Int32) (x2 : Int32) (x3 : Int32) (x4 : Int32) (x5 : Int32) (x6 : Int32) (σ : wg_M) : f_X8_heardAt_18 (n + 1) 49 x1 x2 x3 x4 x5 x6 σ = if x1 < x6 then (some (x5, σ)) else (if (σ 49 10) ≤ x6 then (some (x5, σ)) else (wg_bd (f_X8_leastThatKeeps 49 x2 x3 x4 σ) (q_X8_heardAt_18__1 n x1 x2 x3 x4 x6))) := by
  rw [f_X8_heardAt_18]
  simp only [sc_n56, sc_r49_8]
  rfl
def q_X8_heardAt__1 (x1 : Int32) (v1 : Int32) (s2 : wg_M) : Option (Int32 × wg_M) := f_X8_heardAt_18  wg_N 49 x1 v1 (0 : Int32) (0 : Int32) (-1 : Int32) (0 : Int32) s2
theorem e_X8_heardAt__1 (x1 : Int32) (v1 : Int32) (s2 : wg_M) : q_X8_heardAt__1 x1 v1 s2 = f_X8_heardAt_18  wg_N 49 x1 v1 (0 : Int32) (0 : Int32) (-1 : Int32) (0 : Int32) s2 := rfl
theorem e_X8_heardAt (x1 : Int32) (σ : wg_M) : f_X8_heardAt 49 x1 σ = wg_bd (f_X8_lateness 49 (0 : Int32) (0 : Int32) σ) (q_X8_heardAt__1 x1) := rfl
def q_X9_hasRule__2 (x2 : Int32) (s2 : wg_M) (v3 : Int32) : Option (Int32 × wg_M) := if v3 ≤ x2 then (some ((0 : Int32), s2)) else (some ((1 : Int32), s2))
def q_X9_hasRule__1 (x1 : Int32) (x2 : Int32) (v1 : Int32) (s2 : wg_M) : Option (Int32 × wg_M) := if v1 = 0 then (some ((0 : Int32), s2)) else (if x2 < 0 then (some ((0 : Int32), s2)) else (wg_ga 8 (s2 7) x1 (q_X9_hasRule__2 x2 s2)))
theorem e_X9_hasRule__1 (x1 : Int32) (x2 : Int32) (v1 : Int32) (s2 : wg_M) : q_X9_hasRule__1 x1 x2 v1 s2 = if v1 = 0 then (some ((0 : Int32), s2)) else (if x2 < 0 then (some ((0 : Int32), s2)) else (wg_ga 8 (s2 7) x1 (q_X9_hasRule__2 x2 s2))) := rfl
theorem e_X9_hasRule__2 (x2 : Int32) (s2 : wg_M) (v3 : Int32) : q_X9_hasRule__2 x2 s2 v3 = if v3 ≤ x2 then (some ((0 : Int32), s2)) else (some ((1 : Int32), s2)) := rfl
theorem e_X9_hasRule (x1 : Int32) (x2 : Int32) (σ : wg_M) : f_X9_hasRule 2 x1 x2 σ = wg_bd (f_X9_has 2 x1 σ) (q_X9_hasRule__1 x1 x2) := by
  unfold f_X9_hasRule
  simp only [sc_n7, sc_r2_4]
  rfl
def q_X9_add__6 (s6 : wg_M) : Option (Int32 × wg_M) := some ((s6 2 8) - (1 : Int32), s6)
def q_X9_add__5 (s5 : wg_M) : Option (Int32 × wg_M) := wg_st s5 2 8 ((s5 2 8) + (1 : Int32)) q_X9_add__6
def q_X9_add__4 (s4 : wg_M) : Option (Int32 × wg_M) := wg_sa 8 s4 7 (s4 2 8) (0 : Int32) q_X9_add__5
def q_X9_add__3 (s3 : wg_M) : Option (Int32 × wg_M) := wg_sa 8 s3 6 (s3 2 8) (0 : Int32) q_X9_add__4
def q_X9_add__2 (s2 : wg_M) : Option (Int32 × wg_M) := wg_sa 8 s2 5 (s2 2 8) (0 : Int32) q_X9_add__3
def q_X9_add__1 (x2 : Int32) (s1 : wg_M) : Option (Int32 × wg_M) := wg_sa 8 s1 4 (s1 2 8) x2 q_X9_add__2
theorem e_X9_add__1 (x2 : Int32) (s1 : wg_M) : q_X9_add__1 x2 s1 = wg_sa 8 s1 4 (s1 2 8) x2 q_X9_add__2 := rfl
theorem e_X9_add__2 (s2 : wg_M) : q_X9_add__2 s2 = wg_sa 8 s2 5 (s2 2 8) (0 : Int32) q_X9_add__3 := rfl
theorem e_X9_add__3 (s3 : wg_M) : q_X9_add__3 s3 = wg_sa 8 s3 6 (s3 2 8) (0 : Int32) q_X9_add__4 := rfl
theorem e_X9_add__4 (s4 : wg_M) : q_X9_add__4 s4 = wg_sa 8 s4 7 (s4 2 8) (0 : Int32) q_X9_add__5 := rfl
theorem e_X9_add__5 (s5 : wg_M) : q_X9_add__5 s5 = wg_st s5 2 8 ((s5 2 8) + (1 : Int32)) q_X9_add__6 := rfl
theorem e_X9_add__6 (s6 : wg_M) : q_X9_add__6 s6 = some ((s6 2 8) - (1 : Int32), s6) := rfl
theorem e_X9_add (x1 : Int32) (x2 : Int32) (σ : wg_M) : f_X9_add 2 x1 x2 σ = if (σ 2 8) < (8 : Int32) then (wg_sa 8 σ 3 (σ 2 8) x1 (q_X9_add__1 x2)) else (some ((-1 : Int32), σ)) := by
  unfold f_X9_add
  simp only [sc_n3, sc_n4, sc_n5, sc_n6, sc_n7, sc_r2_0, sc_r2_1, sc_r2_2, sc_r2_3, sc_r2_4]
  rfl
def q_X9_toComb_78__2 (k4 : Nat → Int32 → Int32 → Int32 → wg_M → Option (Int32 × wg_M)) (x1 : Int32) (σ : wg_M) (v1 : Int32) (v2 : Int32) : Option (Int32 × wg_M) := k4 2 x1 v1 v2 σ
def q_X9_toComb_78__1 (k4 : Nat → Int32 → Int32 → Int32 → wg_M → Option (Int32 × wg_M)) (x1 : Int32) (x3 : Int32) (σ : wg_M) (v1 : Int32) : Option (Int32 × wg_M) := wg_let (x3 + (1 : Int32)) (q_X9_toComb_78__2 k4 x1 σ v1)
theorem e_X9_toComb_78__1 (k4 : Nat → Int32 → Int32 → Int32 → wg_M → Option (Int32 × wg_M)) (x1 : Int32) (x3 : Int32) (σ : wg_M) (v1 : Int32) : q_X9_toComb_78__1 k4 x1 x3 σ v1 = wg_let (x3 + (1 : Int32)) (q_X9_toComb_78__2 k4 x1 σ v1) := rfl
theorem e_X9_toComb_78__2 (k4 : Nat → Int32 → Int32 → Int32 → wg_M → Option (Int32 × wg_M)) (x1 : Int32) (σ : wg_M) (v1 : Int32) (v2 : Int32) : q_X9_toComb_78__2 k4 x1 σ v1 v2 = k4 2 x1 v1 v2 σ := rfl
theorem e_X9_toComb_78 (k4 : Nat → Int32 → Int32 → Int32 → wg_M → Option (Int32 × wg_M)) (x1 : Int32) (x3 : Int32) (t0 : Int32) (t1 : Int32) (σ : wg_M) : f_X9_toComb_78 k4 2 x1 x3 t0 t1 σ = wg_let (t1 ||| t0) (q_X9_toComb_78__1 k4 x1 x3 σ) := rfl
theorem e_X9_toComb_63 (k4 : Nat → Int32 → Int32 → Int32 → wg_M → Option (Int32 × wg_M)) (x1 : Int32) (x2 : Int32) (x3 : Int32) (x4 : Int32) (x5 : Int32) (t0 : Int32) (σ : wg_M) : f_X9_toComb_63 k4 2 x1 x2 x3 x4 x5 t0 σ = if t0 = 0 then (f_X9_toComb_78 k4 2 x1 x3 x5 x2 σ) else (f_X9_toComb_78 k4 2 x1 x3 x4 x2 σ) := rfl
theorem e_X9_toComb_58 (k4 : Nat → Int32 → Int32 → Int32 → wg_M → Option (Int32 × wg_M)) (x1 : Int32) (x2 : Int32) (x3 : Int32) (x4 : Int32) (x5 : Int32) (σ : wg_M) : f_X9_toComb_58 k4 2 x1 x2 x3 x4 x5 σ = f_X9_toComb_63 k4 2 x1 x2 x3 x4 x5 (1 : Int32) σ := rfl
theorem e_X9_toComb_62 (k4 : Nat → Int32 → Int32 → Int32 → wg_M → Option (Int32 × wg_M)) (x1 : Int32) (x2 : Int32) (x3 : Int32) (x4 : Int32) (x5 : Int32) (σ : wg_M) : f_X9_toComb_62 k4 2 x1 x2 x3 x4 x5 σ = f_X9_toComb_63 k4 2 x1 x2 x3 x4 x5 (0 : Int32) σ := rfl
def q_X9_toComb_4__5 (n : Nat) (x1 : Int32) (x2 : Int32) (x3 : Int32) (v1 : Int32) (v3 : Int32) (s8 : wg_M) (v9 : Int32) : Option (Int32 × wg_M) := if v9 < 0 then (f_X9_toComb_58 (f_X9_toComb_4  n) 2 x1 x2 x3 v1 v3 s8) else (if v9 = 0 then (if v3 ≤ v1 then (f_X9_toComb_62 (f_X9_toComb_4  n) 2 x1 x2 x3 v1 v3 s8) else (f_X9_toComb_58 (f_X9_toComb_4  n) 2 x1 x2 x3 v1 v3 s8)) else (f_X9_toComb_62 (f_X9_toComb_4  n) 2 x1 x2 x3 v1 v3 s8))
def q_X9_toComb_4__4 (n : Nat) (x1 : Int32) (x2 : Int32) (x3 : Int32) (v1 : Int32) (v3 : Int32) (v5 : Int32) (v7 : Int32) (s8 : wg_M) : Option (Int32 × wg_M) := wg_let (v5 - v7) (q_X9_toComb_4__5 n x1 x2 x3 v1 v3 s8)
def q_X9_toComb_4__3 (n : Nat) (x1 : Int32) (x2 : Int32) (x3 : Int32) (v1 : Int32) (v3 : Int32) (v5 : Int32) (s6 : wg_M) : Option (Int32 × wg_M) := wg_bd (f_J6_bitCount_0f7a4 v3 s6) (q_X9_toComb_4__4 n x1 x2 x3 v1 v3 v5)
def q_X9_toComb_4__2 (n : Nat) (x1 : Int32) (x2 : Int32) (x3 : Int32) (v1 : Int32) (v3 : Int32) (s4 : wg_M) : Option (Int32 × wg_M) := wg_bd (f_J6_bitCount_0f7a4 v1 s4) (q_X9_toComb_4__3 n x1 x2 x3 v1 v3)
def q_X9_toComb_4__1 (n : Nat) (x1 : Int32) (x2 : Int32) (x3 : Int32) (v1 : Int32) (s2 : wg_M) : Option (Int32 × wg_M) := wg_bd (f_X9_rulesFor 2 x1 x3 (1 : Int32) s2) (q_X9_toComb_4__2 n x1 x2 x3 v1)
theorem e_X9_toComb_4__1 (n : Nat) (x1 : Int32) (x2 : Int32) (x3 : Int32) (v1 : Int32) (s2 : wg_M) : q_X9_toComb_4__1 n x1 x2 x3 v1 s2 = wg_bd (f_X9_rulesFor 2 x1 x3 (1 : Int32) s2) (q_X9_toComb_4__2 n x1 x2 x3 v1) := rfl
theorem e_X9_toComb_4__2 (n : Nat) (x1 : Int32) (x2 : Int32) (x3 : Int32) (v1 : Int32) (v3 : Int32) (s4 : wg_M) : q_X9_toComb_4__2 n x1 x2 x3 v1 v3 s4 = wg_bd (f_J6_bitCount_0f7a4 v1 s4) (q_X9_toComb_4__3 n x1 x2 x3 v1 v3) := rfl
theorem e_X9_toComb_4__3 (n : Nat) (x1 : Int32) (x2 : Int32) (x3 : Int32) (v1 : Int32) (v3 : Int32) (v5 : Int32) (s6 : wg_M) : q_X9_toComb_4__3 n x1 x2 x3 v1 v3 v5 s6 = wg_bd (f_J6_bitCount_0f7a4 v3 s6) (q_X9_toComb_4__4 n x1 x2 x3 v1 v3 v5) := rfl
theorem e_X9_toComb_4__4 (n : Nat) (x1 : Int32) (x2 : Int32) (x3 : Int32) (v1 : Int32) (v3 : Int32) (v5 : Int32) (v7 : Int32) (s8 : wg_M) : q_X9_toComb_4__4 n x1 x2 x3 v1 v3 v5 v7 s8 = wg_let (v5 - v7) (q_X9_toComb_4__5 n x1 x2 x3 v1 v3 s8) := rfl
theorem e_X9_toComb_4__5 (n : Nat) (x1 : Int32) (x2 : Int32) (x3 : Int32) (v1 : Int32) (v3 : Int32) (s8 : wg_M) (v9 : Int32) : q_X9_toComb_4__5 n x1 x2 x3 v1 v3 s8 v9 = if v9 < 0 then (f_X9_toComb_58 (f_X9_toComb_4  n) 2 x1 x2 x3 v1 v3 s8) else (if v9 = 0 then (if v3 ≤ v1 then (f_X9_toComb_62 (f_X9_toComb_4  n) 2 x1 x2 x3 v1 v3 s8) else (f_X9_toComb_58 (f_X9_toComb_4  n) 2 x1 x2 x3 v1 v3 s8)) else (f_X9_toComb_62 (f_X9_toComb_4  n) 2 x1 x2 x3 v1 v3 s8)) := rfl
theorem e_X9_toComb_4 (n : Nat) (x1 : Int32) (x2 : Int32) (x3 : Int32) (σ : wg_M) : f_X9_toComb_4 (n + 1) 2 x1 x2 x3 σ = if (8 : Int32) ≤ x3 then (some (x2, σ)) else (wg_bd (f_X9_rulesFor 2 x1 x3 (0 : Int32) σ) (q_X9_toComb_4__1 n x1 x2 x3)) := by
  rw [f_X9_toComb_4]
  rfl
theorem e_X9_toComb (x1 : Int32) (σ : wg_M) : f_X9_toComb 2 x1 σ = f_X9_toComb_4  wg_N 2 x1 (0 : Int32) (0 : Int32) σ := rfl
def q_X9_rulingsOn_47__1 (k5 : Nat → Int32 → Int32 → Int32 → Int32 → wg_M → Option (Int32 × wg_M)) (x1 : Int32) (x2 : Int32) (x3 : Int32) (σ : wg_M) (v1 : Int32) : Option (Int32 × wg_M) := k5 2 x1 x2 x3 v1 σ
theorem e_X9_rulingsOn_47__1 (k5 : Nat → Int32 → Int32 → Int32 → Int32 → wg_M → Option (Int32 × wg_M)) (x1 : Int32) (x2 : Int32) (x3 : Int32) (σ : wg_M) (v1 : Int32) : q_X9_rulingsOn_47__1 k5 x1 x2 x3 σ v1 = k5 2 x1 x2 x3 v1 σ := rfl
theorem e_X9_rulingsOn_47 (k5 : Nat → Int32 → Int32 → Int32 → Int32 → wg_M → Option (Int32 × wg_M)) (x1 : Int32) (x2 : Int32) (x3 : Int32) (x4 : Int32) (σ : wg_M) : f_X9_rulingsOn_47 k5 2 x1 x2 x3 x4 σ = wg_let (x4 + (1 : Int32)) (q_X9_rulingsOn_47__1 k5 x1 x2 x3 σ) := rfl
def q_X9_rulingsOn_5__4 (n : Nat) (x1 : Int32) (x2 : Int32) (x4 : Int32) (σ : wg_M) (v4 : Int32) : Option (Int32 × wg_M) := f_X9_rulingsOn_47 (f_X9_rulingsOn_5  n) 2 x1 x2 v4 x4 σ
def q_X9_rulingsOn_5__3 (n : Nat) (x1 : Int32) (x2 : Int32) (x3 : Int32) (x4 : Int32) (σ : wg_M) (v3 : Int32) : Option (Int32 × wg_M) := wg_let (x3 + v3) (q_X9_rulingsOn_5__4 n x1 x2 x4 σ)
def q_X9_rulingsOn_5__2 (n : Nat) (x1 : Int32) (x2 : Int32) (x3 : Int32) (x4 : Int32) (σ : wg_M) (v2 : Int32) : Option (Int32 × wg_M) := if v2 = x2 then (wg_ga 64 (σ 9) ((x1 * (8 : Int32)) + x4) (q_X9_rulingsOn_5__3 n x1 x2 x3 x4 σ)) else (f_X9_rulingsOn_47 (f_X9_rulingsOn_5  n) 2 x1 x2 x3 x4 σ)
def q_X9_rulingsOn_5__1 (n : Nat) (x1 : Int32) (x2 : Int32) (x3 : Int32) (x4 : Int32) (σ : wg_M) (v1 : Int32) : Option (Int32 × wg_M) := if v1 ≤ x4 then (some (x3, σ)) else (wg_ga 64 (σ 8) ((x1 * (8 : Int32)) + x4) (q_X9_rulingsOn_5__2 n x1 x2 x3 x4 σ))
theorem e_X9_rulingsOn_5__1 (n : Nat) (x1 : Int32) (x2 : Int32) (x3 : Int32) (x4 : Int32) (σ : wg_M) (v1 : Int32) : q_X9_rulingsOn_5__1 n x1 x2 x3 x4 σ v1 = if v1 ≤ x4 then (some (x3, σ)) else (wg_ga 64 (σ 8) ((x1 * (8 : Int32)) + x4) (q_X9_rulingsOn_5__2 n x1 x2 x3 x4 σ)) := rfl
theorem e_X9_rulingsOn_5__2 (n : Nat) (x1 : Int32) (x2 : Int32) (x3 : Int32) (x4 : Int32) (σ : wg_M) (v2 : Int32) : q_X9_rulingsOn_5__2 n x1 x2 x3 x4 σ v2 = if v2 = x2 then (wg_ga 64 (σ 9) ((x1 * (8 : Int32)) + x4) (q_X9_rulingsOn_5__3 n x1 x2 x3 x4 σ)) else (f_X9_rulingsOn_47 (f_X9_rulingsOn_5  n) 2 x1 x2 x3 x4 σ) := rfl
theorem e_X9_rulingsOn_5__3 (n : Nat) (x1 : Int32) (x2 : Int32) (x3 : Int32) (x4 : Int32) (σ : wg_M) (v3 : Int32) : q_X9_rulingsOn_5__3 n x1 x2 x3 x4 σ v3 = wg_let (x3 + v3) (q_X9_rulingsOn_5__4 n x1 x2 x4 σ) := rfl
theorem e_X9_rulingsOn_5__4 (n : Nat) (x1 : Int32) (x2 : Int32) (x4 : Int32) (σ : wg_M) (v4 : Int32) : q_X9_rulingsOn_5__4 n x1 x2 x4 σ v4 = f_X9_rulingsOn_47 (f_X9_rulingsOn_5  n) 2 x1 x2 v4 x4 σ := rfl
theorem e_X9_rulingsOn_5 (n : Nat) (x1 : Int32) (x2 : Int32) (x3 : Int32) (x4 : Int32) (σ : wg_M) : f_X9_rulingsOn_5 (n + 1) 2 x1 x2 x3 x4 σ = wg_ga 8 (σ 7) x1 (q_X9_rulingsOn_5__1 n x1 x2 x3 x4 σ) := by
  rw [f_X9_rulingsOn_5]
  simp only [sc_n7, sc_n8, sc_n9, sc_r2_4, sc_r2_5, sc_r2_6]
  rfl
theorem e_X9_rulingsOn (x1 : Int32) (x2 : Int32) (σ : wg_M) : f_X9_rulingsOn 2 x1 x2 σ = f_X9_rulingsOn_5  wg_N 2 x1 x2 (0 : Int32) (0 : Int32) σ := rfl
def q_X9_apart_5__5 (n : Nat) (x1 : Int32) (x2 : Int32) (s6 : wg_M) (v7 : Int32) (v8 : Int32) : Option (Int32 × wg_M) := f_X9_apart_5  n 2 x1 x2 v7 v8 s6
def q_X9_apart_5__4 (n : Nat) (x1 : Int32) (x2 : Int32) (x4 : Int32) (s6 : wg_M) (v7 : Int32) : Option (Int32 × wg_M) := wg_let (x4 + (1 : Int32)) (q_X9_apart_5__5 n x1 x2 s6 v7)
def q_X9_apart_5__3 (n : Nat) (x1 : Int32) (x2 : Int32) (x3 : Int32) (x4 : Int32) (v5 : Int32) (s6 : wg_M) : Option (Int32 × wg_M) := wg_let (x3 + v5) (q_X9_apart_5__4 n x1 x2 x4 s6)
def q_X9_apart_5__2 (n : Nat) (x1 : Int32) (x2 : Int32) (x3 : Int32) (x4 : Int32) (v1 : Int32) (v3 : Int32) (s4 : wg_M) : Option (Int32 × wg_M) := wg_bd (f_J9_abs_0f7a4 (v1 - v3) s4) (q_X9_apart_5__3 n x1 x2 x3 x4)
def q_X9_apart_5__1 (n : Nat) (x1 : Int32) (x2 : Int32) (x3 : Int32) (x4 : Int32) (v1 : Int32) (s2 : wg_M) : Option (Int32 × wg_M) := wg_bd (f_X9_rulingsOn 2 x2 x4 s2) (q_X9_apart_5__2 n x1 x2 x3 x4 v1)
theorem e_X9_apart_5__1 (n : Nat) (x1 : Int32) (x2 : Int32) (x3 : Int32) (x4 : Int32) (v1 : Int32) (s2 : wg_M) : q_X9_apart_5__1 n x1 x2 x3 x4 v1 s2 = wg_bd (f_X9_rulingsOn 2 x2 x4 s2) (q_X9_apart_5__2 n x1 x2 x3 x4 v1) := rfl
theorem e_X9_apart_5__2 (n : Nat) (x1 : Int32) (x2 : Int32) (x3 : Int32) (x4 : Int32) (v1 : Int32) (v3 : Int32) (s4 : wg_M) : q_X9_apart_5__2 n x1 x2 x3 x4 v1 v3 s4 = wg_bd (f_J9_abs_0f7a4 (v1 - v3) s4) (q_X9_apart_5__3 n x1 x2 x3 x4) := rfl
theorem e_X9_apart_5__3 (n : Nat) (x1 : Int32) (x2 : Int32) (x3 : Int32) (x4 : Int32) (v5 : Int32) (s6 : wg_M) : q_X9_apart_5__3 n x1 x2 x3 x4 v5 s6 = wg_let (x3 + v5) (q_X9_apart_5__4 n x1 x2 x4 s6) := rfl
theorem e_X9_apart_5__4 (n : Nat) (x1 : Int32) (x2 : Int32) (x4 : Int32) (s6 : wg_M) (v7 : Int32) : q_X9_apart_5__4 n x1 x2 x4 s6 v7 = wg_let (x4 + (1 : Int32)) (q_X9_apart_5__5 n x1 x2 s6 v7) := rfl
theorem e_X9_apart_5__5 (n : Nat) (x1 : Int32) (x2 : Int32) (s6 : wg_M) (v7 : Int32) (v8 : Int32) : q_X9_apart_5__5 n x1 x2 s6 v7 v8 = f_X9_apart_5  n 2 x1 x2 v7 v8 s6 := rfl
theorem e_X9_apart_5 (n : Nat) (x1 : Int32) (x2 : Int32) (x3 : Int32) (x4 : Int32) (σ : wg_M) : f_X9_apart_5 (n + 1) 2 x1 x2 x3 x4 σ = if (8 : Int32) ≤ x4 then (some (x3, σ)) else (wg_bd (f_X9_rulingsOn 2 x1 x4 σ) (q_X9_apart_5__1 n x1 x2 x3 x4)) := by
  rw [f_X9_apart_5]
  rfl
theorem e_X9_apart (x1 : Int32) (x2 : Int32) (σ : wg_M) : f_X9_apart 2 x1 x2 σ = f_X9_apart_5  wg_N 2 x1 x2 (0 : Int32) (0 : Int32) σ := rfl
def q_X9_nearest_48__1 (k7 : Nat → Int32 → Int32 → Int32 → Int32 → wg_M → Option (Int32 × wg_M)) (x1 : Int32) (x2 : Int32) (x3 : Int32) (σ : wg_M) (v1 : Int32) : Option (Int32 × wg_M) := k7 2 x1 x2 x3 v1 σ
theorem e_X9_nearest_48__1 (k7 : Nat → Int32 → Int32 → Int32 → Int32 → wg_M → Option (Int32 × wg_M)) (x1 : Int32) (x2 : Int32) (x3 : Int32) (σ : wg_M) (v1 : Int32) : q_X9_nearest_48__1 k7 x1 x2 x3 σ v1 = k7 2 x1 x2 x3 v1 σ := rfl
theorem e_X9_nearest_48 (k7 : Nat → Int32 → Int32 → Int32 → Int32 → wg_M → Option (Int32 × wg_M)) (x1 : Int32) (x2 : Int32) (x3 : Int32) (x4 : Int32) (σ : wg_M) : f_X9_nearest_48 k7 2 x1 x2 x3 x4 σ = wg_let (x4 + (1 : Int32)) (q_X9_nearest_48__1 k7 x1 x2 x3 σ) := rfl
theorem e_X9_nearest_42 (k7 : Nat → Int32 → Int32 → Int32 → Int32 → wg_M → Option (Int32 × wg_M)) (x1 : Int32) (x4 : Int32) (x5 : Int32) (σ : wg_M) : f_X9_nearest_42 k7 2 x1 x4 x5 σ = f_X9_nearest_48 k7 2 x1 x4 x5 x4 σ := rfl
def q_X9_nearest_7__1 (n : Nat) (x1 : Int32) (x2 : Int32) (x3 : Int32) (x4 : Int32) (v1 : Int32) (s2 : wg_M) : Option (Int32 × wg_M) := if x4 = x1 then (f_X9_nearest_48 (f_X9_nearest_7  n) 2 x1 x2 x3 x4 s2) else (if x2 = (-1 : Int32) then (f_X9_nearest_42 (f_X9_nearest_7  n) 2 x1 x4 v1 s2) else (if x3 ≤ v1 then (f_X9_nearest_48 (f_X9_nearest_7  n) 2 x1 x2 x3 x4 s2) else (f_X9_nearest_42 (f_X9_nearest_7  n) 2 x1 x4 v1 s2)))
theorem e_X9_nearest_7__1 (n : Nat) (x1 : Int32) (x2 : Int32) (x3 : Int32) (x4 : Int32) (v1 : Int32) (s2 : wg_M) : q_X9_nearest_7__1 n x1 x2 x3 x4 v1 s2 = if x4 = x1 then (f_X9_nearest_48 (f_X9_nearest_7  n) 2 x1 x2 x3 x4 s2) else (if x2 = (-1 : Int32) then (f_X9_nearest_42 (f_X9_nearest_7  n) 2 x1 x4 v1 s2) else (if x3 ≤ v1 then (f_X9_nearest_48 (f_X9_nearest_7  n) 2 x1 x2 x3 x4 s2) else (f_X9_nearest_42 (f_X9_nearest_7  n) 2 x1 x4 v1 s2))) := rfl
theorem e_X9_nearest_7 (n : Nat) (x1 : Int32) (x2 : Int32) (x3 : Int32) (x4 : Int32) (σ : wg_M) : f_X9_nearest_7 (n + 1) 2 x1 x2 x3 x4 σ = if (σ 2 8) ≤ x4 then (some (x2, σ)) else (wg_bd (f_X9_apart 2 x1 x4 σ) (q_X9_nearest_7__1 n x1 x2 x3 x4)) := by
  rw [f_X9_nearest_7]
  rfl
theorem e_X9_nearest (x1 : Int32) (σ : wg_M) : f_X9_nearest 2 x1 σ = f_X9_nearest_7  wg_N 2 x1 (-1 : Int32) (0 : Int32) (0 : Int32) σ := rfl
def q_X9_worthOf_46__1 (k4 : Nat → Int32 → Int32 → Int32 → wg_M → Option (Int32 × wg_M)) (x1 : Int32) (x2 : Int32) (σ : wg_M) (v1 : Int32) : Option (Int32 × wg_M) := k4 2 x1 x2 v1 σ
theorem e_X9_worthOf_46__1 (k4 : Nat → Int32 → Int32 → Int32 → wg_M → Option (Int32 × wg_M)) (x1 : Int32) (x2 : Int32) (σ : wg_M) (v1 : Int32) : q_X9_worthOf_46__1 k4 x1 x2 σ v1 = k4 2 x1 x2 v1 σ := rfl
theorem e_X9_worthOf_46 (k4 : Nat → Int32 → Int32 → Int32 → wg_M → Option (Int32 × wg_M)) (x1 : Int32) (x2 : Int32) (x3 : Int32) (σ : wg_M) : f_X9_worthOf_46 k4 2 x1 x2 x3 σ = wg_let (x3 + (1 : Int32)) (q_X9_worthOf_46__1 k4 x1 x2 σ) := rfl
def q_X9_worthOf_43__1 (k4 : Nat → Int32 → Int32 → Int32 → wg_M → Option (Int32 × wg_M)) (x1 : Int32) (x3 : Int32) (σ : wg_M) (v1 : Int32) : Option (Int32 × wg_M) := f_X9_worthOf_46 k4 2 x1 v1 x3 σ
theorem e_X9_worthOf_43__1 (k4 : Nat → Int32 → Int32 → Int32 → wg_M → Option (Int32 × wg_M)) (x1 : Int32) (x3 : Int32) (σ : wg_M) (v1 : Int32) : q_X9_worthOf_43__1 k4 x1 x3 σ v1 = f_X9_worthOf_46 k4 2 x1 v1 x3 σ := rfl
theorem e_X9_worthOf_43 (k4 : Nat → Int32 → Int32 → Int32 → wg_M → Option (Int32 × wg_M)) (x1 : Int32) (x3 : Int32) (t0 : Int32) (t1 : Int32) (t2 : Int32) (σ : wg_M) : f_X9_worthOf_43 k4 2 x1 x3 t0 t1 t2 σ = wg_let (t2 + (t1 + t0)) (q_X9_worthOf_43__1 k4 x1 x3 σ) := rfl
def q_X9_worthOf_4__2 (n : Nat) (x1 : Int32) (x2 : Int32) (x3 : Int32) (σ : wg_M) (v1 : Int32) (v2 : Int32) : Option (Int32 × wg_M) := if v2 = (1 : Int32) then (f_X9_worthOf_43 (f_X9_worthOf_4  n) 2 x1 x3 (3 : Int32) v1 x2 σ) else (f_X9_worthOf_43 (f_X9_worthOf_4  n) 2 x1 x3 (0 : Int32) v1 x2 σ)
def q_X9_worthOf_4__1 (n : Nat) (x1 : Int32) (x2 : Int32) (x3 : Int32) (σ : wg_M) (v1 : Int32) : Option (Int32 × wg_M) := wg_ga 8 (σ 3) x3 (q_X9_worthOf_4__2 n x1 x2 x3 σ v1)
theorem e_X9_worthOf_4__1 (n : Nat) (x1 : Int32) (x2 : Int32) (x3 : Int32) (σ : wg_M) (v1 : Int32) : q_X9_worthOf_4__1 n x1 x2 x3 σ v1 = wg_ga 8 (σ 3) x3 (q_X9_worthOf_4__2 n x1 x2 x3 σ v1) := rfl
theorem e_X9_worthOf_4__2 (n : Nat) (x1 : Int32) (x2 : Int32) (x3 : Int32) (σ : wg_M) (v1 : Int32) (v2 : Int32) : q_X9_worthOf_4__2 n x1 x2 x3 σ v1 v2 = if v2 = (1 : Int32) then (f_X9_worthOf_43 (f_X9_worthOf_4  n) 2 x1 x3 (3 : Int32) v1 x2 σ) else (f_X9_worthOf_43 (f_X9_worthOf_4  n) 2 x1 x3 (0 : Int32) v1 x2 σ) := rfl
theorem e_X9_worthOf_4 (n : Nat) (x1 : Int32) (x2 : Int32) (x3 : Int32) (σ : wg_M) : f_X9_worthOf_4 (n + 1) 2 x1 x2 x3 σ = if (σ 2 8) ≤ x3 then (some (x2, σ)) else (if ((x1 >>> (x3 &&& 31)) &&& (1 : Int32)) = (1 : Int32) then (wg_ga 8 (σ 7) x3 (q_X9_worthOf_4__1 n x1 x2 x3 σ)) else (f_X9_worthOf_46 (f_X9_worthOf_4  n) 2 x1 x2 x3 σ)) := by
  rw [f_X9_worthOf_4]
  simp only [sc_n3, sc_n7, sc_r2_0, sc_r2_4]
  rfl
theorem e_X9_worthOf (x1 : Int32) (σ : wg_M) : f_X9_worthOf 2 x1 σ = f_X9_worthOf_4  wg_N 2 x1 (0 : Int32) (0 : Int32) σ := rfl
def q_X9_toSave_48__1 (k7 : Nat → Int32 → Int32 → Int32 → Int32 → wg_M → Option (Int32 × wg_M)) (x1 : Int32) (x2 : Int32) (x3 : Int32) (σ : wg_M) (v1 : Int32) : Option (Int32 × wg_M) := k7 2 x1 x2 x3 v1 σ
theorem e_X9_toSave_48__1 (k7 : Nat → Int32 → Int32 → Int32 → Int32 → wg_M → Option (Int32 × wg_M)) (x1 : Int32) (x2 : Int32) (x3 : Int32) (σ : wg_M) (v1 : Int32) : q_X9_toSave_48__1 k7 x1 x2 x3 σ v1 = k7 2 x1 x2 x3 v1 σ := rfl
theorem e_X9_toSave_48 (k7 : Nat → Int32 → Int32 → Int32 → Int32 → wg_M → Option (Int32 × wg_M)) (x1 : Int32) (x2 : Int32) (x3 : Int32) (x4 : Int32) (σ : wg_M) : f_X9_toSave_48 k7 2 x1 x2 x3 x4 σ = wg_let (x4 + (1 : Int32)) (q_X9_toSave_48__1 k7 x1 x2 x3 σ) := rfl
def q_X9_toSave_7__3 (n : Nat) (x1 : Int32) (x4 : Int32) (v5 : Int32) (s6 : wg_M) : Option (Int32 × wg_M) := f_X9_toSave_48 (f_X9_toSave_7  n) 2 x1 x4 v5 x4 s6
def q_X9_toSave_7__2 (n : Nat) (x1 : Int32) (x2 : Int32) (x3 : Int32) (x4 : Int32) (v3 : Int32) (s4 : wg_M) : Option (Int32 × wg_M) := if v3 ≤ x3 then (f_X9_toSave_48 (f_X9_toSave_7  n) 2 x1 x2 x3 x4 s4) else (wg_bd (f_X9_worthOf 2 x4 s4) (q_X9_toSave_7__3 n x1 x4))
def q_X9_toSave_7__1 (n : Nat) (x1 : Int32) (x2 : Int32) (x3 : Int32) (x4 : Int32) (v1 : Int32) (s2 : wg_M) : Option (Int32 × wg_M) := if x1 < v1 then (f_X9_toSave_48 (f_X9_toSave_7  n) 2 x1 x2 x3 x4 s2) else (wg_bd (f_X9_worthOf 2 x4 s2) (q_X9_toSave_7__2 n x1 x2 x3 x4))
theorem e_X9_toSave_7__1 (n : Nat) (x1 : Int32) (x2 : Int32) (x3 : Int32) (x4 : Int32) (v1 : Int32) (s2 : wg_M) : q_X9_toSave_7__1 n x1 x2 x3 x4 v1 s2 = if x1 < v1 then (f_X9_toSave_48 (f_X9_toSave_7  n) 2 x1 x2 x3 x4 s2) else (wg_bd (f_X9_worthOf 2 x4 s2) (q_X9_toSave_7__2 n x1 x2 x3 x4)) := rfl
theorem e_X9_toSave_7__2 (n : Nat) (x1 : Int32) (x2 : Int32) (x3 : Int32) (x4 : Int32) (v3 : Int32) (s4 : wg_M) : q_X9_toSave_7__2 n x1 x2 x3 x4 v3 s4 = if v3 ≤ x3 then (f_X9_toSave_48 (f_X9_toSave_7  n) 2 x1 x2 x3 x4 s4) else (wg_bd (f_X9_worthOf 2 x4 s4) (q_X9_toSave_7__3 n x1 x4)) := rfl
theorem e_X9_toSave_7__3 (n : Nat) (x1 : Int32) (x4 : Int32) (v5 : Int32) (s6 : wg_M) : q_X9_toSave_7__3 n x1 x4 v5 s6 = f_X9_toSave_48 (f_X9_toSave_7  n) 2 x1 x4 v5 x4 s6 := rfl
theorem e_X9_toSave_7 (n : Nat) (x1 : Int32) (x2 : Int32) (x3 : Int32) (x4 : Int32) (σ : wg_M) : f_X9_toSave_7 (n + 1) 2 x1 x2 x3 x4 σ = if ((1 : Int32) <<< ((σ 2 8) &&& 31)) ≤ x4 then (some (x2, σ)) else (wg_bd (f_X9_hairOf 2 x4 σ) (q_X9_toSave_7__1 n x1 x2 x3 x4)) := by
  rw [f_X9_toSave_7]
  rfl
theorem e_X9_toSave (x1 : Int32) (σ : wg_M) : f_X9_toSave 2 x1 σ = f_X9_toSave_7  wg_N 2 x1 (0 : Int32) (0 : Int32) (1 : Int32) σ := rfl
def q_X9_wellPulled_29__5 (σ : wg_M) (v2 : Int32) (v5 : Int32) : Option (Int32 × wg_M) := some (v5 - v2, σ)
def q_X9_wellPulled_29__4 (n : Nat) (x1 : Int32) (x2 : Int32) (σ : wg_M) (v4 : Int32) : Option (Int32 × wg_M) := f_X9_wellPulled_29  n 2 x1 x2 v4 σ
def q_X9_wellPulled_29__3 (n : Nat) (x1 : Int32) (x2 : Int32) (x3 : Int32) (σ : wg_M) (v2 : Int32) (v3 : Int32) : Option (Int32 × wg_M) := if v3 ≤ v2 then (wg_let (x3 + (1 : Int32)) (q_X9_wellPulled_29__4 n x1 x2 σ)) else (if x1 = 0 then (wg_ga 8 (σ 7) x3 (q_X9_wellPulled_29__5 σ v2)) else (some (x3, σ)))
def q_X9_wellPulled_29__2 (n : Nat) (x1 : Int32) (x2 : Int32) (x3 : Int32) (σ : wg_M) (v2 : Int32) : Option (Int32 × wg_M) := wg_ga 8 (σ 7) x3 (q_X9_wellPulled_29__3 n x1 x2 x3 σ v2)
def q_X9_wellPulled_29__1 (n : Nat) (x1 : Int32) (x2 : Int32) (x3 : Int32) (σ : wg_M) (v1 : Int32) : Option (Int32 × wg_M) := wg_let (v1 ^^^ x2) (q_X9_wellPulled_29__2 n x1 x2 x3 σ)
theorem e_X9_wellPulled_29__1 (n : Nat) (x1 : Int32) (x2 : Int32) (x3 : Int32) (σ : wg_M) (v1 : Int32) : q_X9_wellPulled_29__1 n x1 x2 x3 σ v1 = wg_let (v1 ^^^ x2) (q_X9_wellPulled_29__2 n x1 x2 x3 σ) := rfl
theorem e_X9_wellPulled_29__2 (n : Nat) (x1 : Int32) (x2 : Int32) (x3 : Int32) (σ : wg_M) (v2 : Int32) : q_X9_wellPulled_29__2 n x1 x2 x3 σ v2 = wg_ga 8 (σ 7) x3 (q_X9_wellPulled_29__3 n x1 x2 x3 σ v2) := rfl
theorem e_X9_wellPulled_29__3 (n : Nat) (x1 : Int32) (x2 : Int32) (x3 : Int32) (σ : wg_M) (v2 : Int32) (v3 : Int32) : q_X9_wellPulled_29__3 n x1 x2 x3 σ v2 v3 = if v3 ≤ v2 then (wg_let (x3 + (1 : Int32)) (q_X9_wellPulled_29__4 n x1 x2 σ)) else (if x1 = 0 then (wg_ga 8 (σ 7) x3 (q_X9_wellPulled_29__5 σ v2)) else (some (x3, σ))) := rfl
theorem e_X9_wellPulled_29__4 (n : Nat) (x1 : Int32) (x2 : Int32) (σ : wg_M) (v4 : Int32) : q_X9_wellPulled_29__4 n x1 x2 σ v4 = f_X9_wellPulled_29  n 2 x1 x2 v4 σ := rfl
theorem e_X9_wellPulled_29__5 (σ : wg_M) (v2 : Int32) (v5 : Int32) : q_X9_wellPulled_29__5 σ v2 v5 = some (v5 - v2, σ) := rfl
theorem e_X9_wellPulled_29 (n : Nat) (x1 : Int32) (x2 : Int32) (x3 : Int32) (σ : wg_M) : f_X9_wellPulled_29 (n + 1) 2 x1 x2 x3 σ = if (σ 2 8) ≤ x3 then (some ((-1 : Int32), σ)) else (wg_ga 8 (σ 7) x3 (q_X9_wellPulled_29__1 n x1 x2 x3 σ)) := by
  rw [f_X9_wellPulled_29]
  simp only [sc_n7, sc_r2_4]
  rfl
def q_X9_wellPulled_4__3 (n : Nat) (x1 : Int32) (σ : wg_M) (v2 : Int32) (v3 : Int32) : Option (Int32 × wg_M) := f_X9_wellPulled_4  n 2 x1 v2 v3 σ
def q_X9_wellPulled_4__2 (n : Nat) (x1 : Int32) (x3 : Int32) (σ : wg_M) (v2 : Int32) : Option (Int32 × wg_M) := wg_let (x3 + (1 : Int32)) (q_X9_wellPulled_4__3 n x1 σ v2)
def q_X9_wellPulled_4__1 (n : Nat) (x1 : Int32) (x2 : Int32) (x3 : Int32) (σ : wg_M) (v1 : Int32) : Option (Int32 × wg_M) := wg_let (x2 ^^^ v1) (q_X9_wellPulled_4__2 n x1 x3 σ)
theorem e_X9_wellPulled_4__1 (n : Nat) (x1 : Int32) (x2 : Int32) (x3 : Int32) (σ : wg_M) (v1 : Int32) : q_X9_wellPulled_4__1 n x1 x2 x3 σ v1 = wg_let (x2 ^^^ v1) (q_X9_wellPulled_4__2 n x1 x3 σ) := rfl
theorem e_X9_wellPulled_4__2 (n : Nat) (x1 : Int32) (x3 : Int32) (σ : wg_M) (v2 : Int32) : q_X9_wellPulled_4__2 n x1 x3 σ v2 = wg_let (x3 + (1 : Int32)) (q_X9_wellPulled_4__3 n x1 σ v2) := rfl
theorem e_X9_wellPulled_4__3 (n : Nat) (x1 : Int32) (σ : wg_M) (v2 : Int32) (v3 : Int32) : q_X9_wellPulled_4__3 n x1 σ v2 v3 = f_X9_wellPulled_4  n 2 x1 v2 v3 σ := rfl
theorem e_X9_wellPulled_4 (n : Nat) (x1 : Int32) (x2 : Int32) (x3 : Int32) (σ : wg_M) : f_X9_wellPulled_4 (n + 1) 2 x1 x2 x3 σ = if (σ 2 8) ≤ x3 then (f_X9_wellPulled_29  wg_N 2 x1 x2 (0 : Int32) σ) else (wg_ga 8 (σ 7) x3 (q_X9_wellPulled_4__1 n x1 x2 x3 σ)) := by
  rw [f_X9_wellPulled_4]
  simp only [sc_n7, sc_r2_4]
  rfl
theorem e_X9_wellPulled (x1 : Int32) (σ : wg_M) : f_X9_wellPulled 2 x1 σ = f_X9_wellPulled_4  wg_N 2 x1 (0 : Int32) (0 : Int32) σ := rfl
def q_X11_state__3 (v1 : Int32) (s3 : wg_M) : Option (Int32 × wg_M) := some (v1, s3)
def q_X11_state__2 (x1 : Int32) (v1 : Int32) (_u2 : Int32) (s2 : wg_M) : Option (Int32 × wg_M) := wg_st s2 1 8 x1 (q_X11_state__3 v1)
def q_X11_state__1 (x1 : Int32) (σ : wg_M) (v1 : Int32) : Option (Int32 × wg_M) := wg_bd (f_X5_forget 258 σ) (q_X11_state__2 x1 v1)
theorem e_X11_state__1 (x1 : Int32) (σ : wg_M) (v1 : Int32) : q_X11_state__1 x1 σ v1 = wg_bd (f_X5_forget 258 σ) (q_X11_state__2 x1 v1) := rfl
theorem e_X11_state__2 (x1 : Int32) (v1 : Int32) (_u2 : Int32) (s2 : wg_M) : q_X11_state__2 x1 v1 _u2 s2 = wg_st s2 1 8 x1 (q_X11_state__3 v1) := rfl
theorem e_X11_state__3 (v1 : Int32) (s3 : wg_M) : q_X11_state__3 v1 s3 = some (v1, s3) := rfl
theorem e_X11_state (x1 : Int32) (σ : wg_M) : f_X11_state 281 x1 σ = wg_let (σ 1 8) (q_X11_state__1 x1 σ) := by
  unfold f_X11_state
  simp only [sc_r0_0, sc_r281_0, sc_r281_2]
  rfl
def q_X11_wig__4 (v6 : Int32) (s7 : wg_M) : Option (Int32 × wg_M) := some (v6, s7)
def q_X11_wig__3 (x1 : Int32) (x2 : Int32) (_u3 : Int32) (s5 : wg_M) : Option (Int32 × wg_M) := wg_bd (f_X9_add 2 x1 x2 s5) q_X11_wig__4
def q_X11_wig__2 (x1 : Int32) (x2 : Int32) (v3 : Int32) (s4 : wg_M) : Option (Int32 × wg_M) := if v3 = 0 then (some ((-1 : Int32), s4)) else (wg_bd (f_X5_forget 258 s4) (q_X11_wig__3 x1 x2))
def q_X11_wig__1 (x1 : Int32) (x2 : Int32) (v1 : Int32) (s2 : wg_M) : Option (Int32 × wg_M) := if v1 = 0 then (some ((-1 : Int32), s2)) else (wg_bd (f_X11_within x2 (0 : Int32) (99 : Int32) s2) (q_X11_wig__2 x1 x2))
theorem e_X11_wig__1 (x1 : Int32) (x2 : Int32) (v1 : Int32) (s2 : wg_M) : q_X11_wig__1 x1 x2 v1 s2 = if v1 = 0 then (some ((-1 : Int32), s2)) else (wg_bd (f_X11_within x2 (0 : Int32) (99 : Int32) s2) (q_X11_wig__2 x1 x2)) := rfl
theorem e_X11_wig__2 (x1 : Int32) (x2 : Int32) (v3 : Int32) (s4 : wg_M) : q_X11_wig__2 x1 x2 v3 s4 = if v3 = 0 then (some ((-1 : Int32), s4)) else (wg_bd (f_X5_forget 258 s4) (q_X11_wig__3 x1 x2)) := rfl
theorem e_X11_wig__3 (x1 : Int32) (x2 : Int32) (_u3 : Int32) (s5 : wg_M) : q_X11_wig__3 x1 x2 _u3 s5 = wg_bd (f_X9_add 2 x1 x2 s5) q_X11_wig__4 := rfl
theorem e_X11_wig__4 (v6 : Int32) (s7 : wg_M) : q_X11_wig__4 v6 s7 = some (v6, s7) := rfl
theorem e_X11_wig (x1 : Int32) (x2 : Int32) (σ : wg_M) : f_X11_wig 281 x1 x2 σ = if (8 : Int32) ≤ (σ 2 8) then (some ((-1 : Int32), σ)) else (wg_bd (f_X11_within x1 (0 : Int32) (2 : Int32) σ) (q_X11_wig__1 x1 x2)) := by
  unfold f_X11_wig
  simp only [sc_r0_0, sc_r1_0, sc_r281_0, sc_r281_2]
  rfl
def q_X11_judge__4 (v6 : Int32) (s7 : wg_M) : Option (Int32 × wg_M) := some (v6, s7)
def q_X11_judge__3 (x1 : Int32) (x2 : Int32) (_u3 : Int32) (s5 : wg_M) : Option (Int32 × wg_M) := wg_bd (f_X2_add 11 x1 x2 s5) q_X11_judge__4
def q_X11_judge__2 (x1 : Int32) (x2 : Int32) (v3 : Int32) (s4 : wg_M) : Option (Int32 × wg_M) := if v3 = 0 then (some ((-1 : Int32), s4)) else (wg_bd (f_X5_forget 258 s4) (q_X11_judge__3 x1 x2))
def q_X11_judge__1 (x1 : Int32) (x2 : Int32) (v1 : Int32) (s2 : wg_M) : Option (Int32 × wg_M) := if v1 = 0 then (some ((-1 : Int32), s2)) else (wg_bd (f_X11_within x2 (-9 : Int32) (9 : Int32) s2) (q_X11_judge__2 x1 x2))
theorem e_X11_judge__1 (x1 : Int32) (x2 : Int32) (v1 : Int32) (s2 : wg_M) : q_X11_judge__1 x1 x2 v1 s2 = if v1 = 0 then (some ((-1 : Int32), s2)) else (wg_bd (f_X11_within x2 (-9 : Int32) (9 : Int32) s2) (q_X11_judge__2 x1 x2)) := rfl
theorem e_X11_judge__2 (x1 : Int32) (x2 : Int32) (v3 : Int32) (s4 : wg_M) : q_X11_judge__2 x1 x2 v3 s4 = if v3 = 0 then (some ((-1 : Int32), s4)) else (wg_bd (f_X5_forget 258 s4) (q_X11_judge__3 x1 x2)) := rfl
theorem e_X11_judge__3 (x1 : Int32) (x2 : Int32) (_u3 : Int32) (s5 : wg_M) : q_X11_judge__3 x1 x2 _u3 s5 = wg_bd (f_X2_add 11 x1 x2 s5) q_X11_judge__4 := rfl
theorem e_X11_judge__4 (v6 : Int32) (s7 : wg_M) : q_X11_judge__4 v6 s7 = some (v6, s7) := rfl
theorem e_X11_judge (x1 : Int32) (x2 : Int32) (σ : wg_M) : f_X11_judge 281 x1 x2 σ = if (10 : Int32) ≤ (σ 11 5) then (some ((-1 : Int32), σ)) else (wg_bd (f_X11_within x1 (0 : Int32) (120 : Int32) σ) (q_X11_judge__1 x1 x2)) := by
  unfold f_X11_judge
  simp only [sc_r0_0, sc_r1_1, sc_r281_0, sc_r281_2]
  rfl
def q_X11_trial__4 (v6 : Int32) (s7 : wg_M) : Option (Int32 × wg_M) := some (v6, s7)
def q_X11_trial__3 (x1 : Int32) (x2 : Int32) (_u3 : Int32) (s5 : wg_M) : Option (Int32 × wg_M) := wg_bd (f_X0_addCase 1 x1 x2 s5) q_X11_trial__4
def q_X11_trial__2 (x1 : Int32) (x2 : Int32) (v3 : Int32) (s4 : wg_M) : Option (Int32 × wg_M) := if v3 = 0 then (some ((-1 : Int32), s4)) else (wg_bd (f_X5_forget 258 s4) (q_X11_trial__3 x1 x2))
def q_X11_trial__1 (x1 : Int32) (x2 : Int32) (v1 : Int32) (s2 : wg_M) : Option (Int32 × wg_M) := if v1 = 0 then (some ((-1 : Int32), s2)) else (wg_bd (f_X11_within x2 (-99 : Int32) (99 : Int32) s2) (q_X11_trial__2 x1 x2))
theorem e_X11_trial__1 (x1 : Int32) (x2 : Int32) (v1 : Int32) (s2 : wg_M) : q_X11_trial__1 x1 x2 v1 s2 = if v1 = 0 then (some ((-1 : Int32), s2)) else (wg_bd (f_X11_within x2 (-99 : Int32) (99 : Int32) s2) (q_X11_trial__2 x1 x2)) := rfl
theorem e_X11_trial__2 (x1 : Int32) (x2 : Int32) (v3 : Int32) (s4 : wg_M) : q_X11_trial__2 x1 x2 v3 s4 = if v3 = 0 then (some ((-1 : Int32), s4)) else (wg_bd (f_X5_forget 258 s4) (q_X11_trial__3 x1 x2)) := rfl
theorem e_X11_trial__3 (x1 : Int32) (x2 : Int32) (_u3 : Int32) (s5 : wg_M) : q_X11_trial__3 x1 x2 _u3 s5 = wg_bd (f_X0_addCase 1 x1 x2 s5) q_X11_trial__4 := rfl
theorem e_X11_trial__4 (v6 : Int32) (s7 : wg_M) : q_X11_trial__4 v6 s7 = some (v6, s7) := rfl
theorem e_X11_trial (x1 : Int32) (x2 : Int32) (σ : wg_M) : f_X11_trial 281 x1 x2 σ = if (14 : Int32) ≤ (σ 1 6) then (some ((-1 : Int32), σ)) else (wg_bd (f_X11_within x1 (0 : Int32) (7 : Int32) σ) (q_X11_trial__1 x1 x2)) := by
  unfold f_X11_trial
  simp only [sc_r0_0, sc_r281_0, sc_r281_2]
  rfl
def q_X11_rule__8 (s11 : wg_M) (v12 : Int32) : Option (Int32 × wg_M) := some (v12, s11)
def q_X11_rule__7 (x1 : Int32) (_u7 : Int32) (s11 : wg_M) : Option (Int32 × wg_M) := wg_ga 8 (s11 7) x1 (q_X11_rule__8 s11)
def q_X11_rule__6 (x1 : Int32) (x2 : Int32) (x3 : Int32) (x4 : Int32) (_u6 : Int32) (s10 : wg_M) : Option (Int32 × wg_M) := wg_bd (f_X9_addRule 2 x1 x2 x3 x4 s10) (q_X11_rule__7 x1)
def q_X11_rule__5 (x1 : Int32) (x2 : Int32) (x3 : Int32) (x4 : Int32) (v8 : Int32) (s9 : wg_M) : Option (Int32 × wg_M) := if v8 = 0 then (some ((-1 : Int32), s9)) else (wg_bd (f_X5_forget 258 s9) (q_X11_rule__6 x1 x2 x3 x4))
def q_X11_rule__4 (x1 : Int32) (x2 : Int32) (x3 : Int32) (x4 : Int32) (v6 : Int32) (s7 : wg_M) : Option (Int32 × wg_M) := if v6 = 0 then (some ((-1 : Int32), s7)) else (wg_bd (f_X11_within x4 (1 : Int32) (99 : Int32) s7) (q_X11_rule__5 x1 x2 x3 x4))
def q_X11_rule__3 (x1 : Int32) (x2 : Int32) (x3 : Int32) (x4 : Int32) (v4 : Int32) (s5 : wg_M) : Option (Int32 × wg_M) := if v4 = 0 then (some ((-1 : Int32), s5)) else (wg_bd (f_X11_within x3 (-9 : Int32) (9 : Int32) s5) (q_X11_rule__4 x1 x2 x3 x4))
def q_X11_rule__2 (x1 : Int32) (x2 : Int32) (x3 : Int32) (x4 : Int32) (s2 : wg_M) (v3 : Int32) : Option (Int32 × wg_M) := if (8 : Int32) ≤ v3 then (some ((-1 : Int32), s2)) else (wg_bd (f_X11_within x2 (0 : Int32) (7 : Int32) s2) (q_X11_rule__3 x1 x2 x3 x4))
def q_X11_rule__1 (x1 : Int32) (x2 : Int32) (x3 : Int32) (x4 : Int32) (v1 : Int32) (s2 : wg_M) : Option (Int32 × wg_M) := if v1 = 0 then (some ((-1 : Int32), s2)) else (wg_ga 8 (s2 7) x1 (q_X11_rule__2 x1 x2 x3 x4 s2))
theorem e_X11_rule__1 (x1 : Int32) (x2 : Int32) (x3 : Int32) (x4 : Int32) (v1 : Int32) (s2 : wg_M) : q_X11_rule__1 x1 x2 x3 x4 v1 s2 = if v1 = 0 then (some ((-1 : Int32), s2)) else (wg_ga 8 (s2 7) x1 (q_X11_rule__2 x1 x2 x3 x4 s2)) := rfl
theorem e_X11_rule__2 (x1 : Int32) (x2 : Int32) (x3 : Int32) (x4 : Int32) (s2 : wg_M) (v3 : Int32) : q_X11_rule__2 x1 x2 x3 x4 s2 v3 = if (8 : Int32) ≤ v3 then (some ((-1 : Int32), s2)) else (wg_bd (f_X11_within x2 (0 : Int32) (7 : Int32) s2) (q_X11_rule__3 x1 x2 x3 x4)) := rfl
theorem e_X11_rule__3 (x1 : Int32) (x2 : Int32) (x3 : Int32) (x4 : Int32) (v4 : Int32) (s5 : wg_M) : q_X11_rule__3 x1 x2 x3 x4 v4 s5 = if v4 = 0 then (some ((-1 : Int32), s5)) else (wg_bd (f_X11_within x3 (-9 : Int32) (9 : Int32) s5) (q_X11_rule__4 x1 x2 x3 x4)) := rfl
theorem e_X11_rule__4 (x1 : Int32) (x2 : Int32) (x3 : Int32) (x4 : Int32) (v6 : Int32) (s7 : wg_M) : q_X11_rule__4 x1 x2 x3 x4 v6 s7 = if v6 = 0 then (some ((-1 : Int32), s7)) else (wg_bd (f_X11_within x4 (1 : Int32) (99 : Int32) s7) (q_X11_rule__5 x1 x2 x3 x4)) := rfl
theorem e_X11_rule__5 (x1 : Int32) (x2 : Int32) (x3 : Int32) (x4 : Int32) (v8 : Int32) (s9 : wg_M) : q_X11_rule__5 x1 x2 x3 x4 v8 s9 = if v8 = 0 then (some ((-1 : Int32), s9)) else (wg_bd (f_X5_forget 258 s9) (q_X11_rule__6 x1 x2 x3 x4)) := rfl
theorem e_X11_rule__6 (x1 : Int32) (x2 : Int32) (x3 : Int32) (x4 : Int32) (_u6 : Int32) (s10 : wg_M) : q_X11_rule__6 x1 x2 x3 x4 _u6 s10 = wg_bd (f_X9_addRule 2 x1 x2 x3 x4 s10) (q_X11_rule__7 x1) := rfl
theorem e_X11_rule__7 (x1 : Int32) (_u7 : Int32) (s11 : wg_M) : q_X11_rule__7 x1 _u7 s11 = wg_ga 8 (s11 7) x1 (q_X11_rule__8 s11) := rfl
theorem e_X11_rule__8 (s11 : wg_M) (v12 : Int32) : q_X11_rule__8 s11 v12 = some (v12, s11) := rfl
theorem e_X11_rule (x1 : Int32) (x2 : Int32) (x3 : Int32) (x4 : Int32) (σ : wg_M) : f_X11_rule 281 x1 x2 x3 x4 σ = wg_bd (f_X9_has 2 x1 σ) (q_X11_rule__1 x1 x2 x3 x4) := by
  unfold f_X11_rule
  simp only [sc_n7, sc_r0_0, sc_r1_0, sc_r2_4, sc_r281_0, sc_r281_2]
  rfl
def q_X11_set__8 (v15 : Int32) (s16 : wg_M) : Option (Int32 × wg_M) := if v15 = 0 then (some ((0 : Int32), s16)) else (some ((1 : Int32), s16))
def q_X11_set__7 (x2 : Int32) (x3 : Int32) (v13 : Int32) (s14 : wg_M) : Option (Int32 × wg_M) := if v13 = 0 then (some ((0 : Int32), s14)) else (wg_bd (f_X11_tellAnew 281 18 x2 x3 (-99 : Int32) (99 : Int32) s14) q_X11_set__8)
def q_X11_set__6 (v11 : Int32) (s12 : wg_M) : Option (Int32 × wg_M) := if v11 = 0 then (some ((0 : Int32), s12)) else (some ((1 : Int32), s12))
def q_X11_set__5 (x2 : Int32) (x3 : Int32) (v9 : Int32) (s10 : wg_M) : Option (Int32 × wg_M) := if v9 = 0 then (some ((0 : Int32), s10)) else (wg_bd (f_X11_tellAnew 281 4 x2 x3 (0 : Int32) (99 : Int32) s10) q_X11_set__6)
def q_X11_set__4 (v7 : Int32) (s8 : wg_M) : Option (Int32 × wg_M) := if v7 = 0 then (some ((0 : Int32), s8)) else (some ((1 : Int32), s8))
def q_X11_set__3 (x2 : Int32) (x3 : Int32) (v5 : Int32) (s6 : wg_M) : Option (Int32 × wg_M) := if v5 = 0 then (some ((0 : Int32), s6)) else (wg_bd (f_X11_tellAnew 281 13 x2 x3 (-9 : Int32) (9 : Int32) s6) q_X11_set__4)
def q_X11_set__2 (v3 : Int32) (s4 : wg_M) : Option (Int32 × wg_M) := if v3 = 0 then (some ((0 : Int32), s4)) else (some ((1 : Int32), s4))
def q_X11_set__1 (x2 : Int32) (x3 : Int32) (v1 : Int32) (s2 : wg_M) : Option (Int32 × wg_M) := if v1 = 0 then (some ((0 : Int32), s2)) else (wg_bd (f_X11_tellAnew 281 12 x2 x3 (0 : Int32) (120 : Int32) s2) q_X11_set__2)
theorem e_X11_set__1 (x2 : Int32) (x3 : Int32) (v1 : Int32) (s2 : wg_M) : q_X11_set__1 x2 x3 v1 s2 = if v1 = 0 then (some ((0 : Int32), s2)) else (wg_bd (f_X11_tellAnew 281 12 x2 x3 (0 : Int32) (120 : Int32) s2) q_X11_set__2) := rfl
theorem e_X11_set__2 (v3 : Int32) (s4 : wg_M) : q_X11_set__2 v3 s4 = if v3 = 0 then (some ((0 : Int32), s4)) else (some ((1 : Int32), s4)) := rfl
theorem e_X11_set__3 (x2 : Int32) (x3 : Int32) (v5 : Int32) (s6 : wg_M) : q_X11_set__3 x2 x3 v5 s6 = if v5 = 0 then (some ((0 : Int32), s6)) else (wg_bd (f_X11_tellAnew 281 13 x2 x3 (-9 : Int32) (9 : Int32) s6) q_X11_set__4) := rfl
theorem e_X11_set__4 (v7 : Int32) (s8 : wg_M) : q_X11_set__4 v7 s8 = if v7 = 0 then (some ((0 : Int32), s8)) else (some ((1 : Int32), s8)) := rfl
theorem e_X11_set__5 (x2 : Int32) (x3 : Int32) (v9 : Int32) (s10 : wg_M) : q_X11_set__5 x2 x3 v9 s10 = if v9 = 0 then (some ((0 : Int32), s10)) else (wg_bd (f_X11_tellAnew 281 4 x2 x3 (0 : Int32) (99 : Int32) s10) q_X11_set__6) := rfl
theorem e_X11_set__6 (v11 : Int32) (s12 : wg_M) : q_X11_set__6 v11 s12 = if v11 = 0 then (some ((0 : Int32), s12)) else (some ((1 : Int32), s12)) := rfl
theorem e_X11_set__7 (x2 : Int32) (x3 : Int32) (v13 : Int32) (s14 : wg_M) : q_X11_set__7 x2 x3 v13 s14 = if v13 = 0 then (some ((0 : Int32), s14)) else (wg_bd (f_X11_tellAnew 281 18 x2 x3 (-99 : Int32) (99 : Int32) s14) q_X11_set__8) := rfl
theorem e_X11_set__8 (v15 : Int32) (s16 : wg_M) : q_X11_set__8 v15 s16 = if v15 = 0 then (some ((0 : Int32), s16)) else (some ((1 : Int32), s16)) := rfl
theorem e_X11_set (x1 : Int32) (x2 : Int32) (x3 : Int32) (σ : wg_M) : f_X11_set 281 x1 x2 x3 σ = wg_sw x1 (0) [wg_bd (f_X2_has 11 x2 σ) (q_X11_set__1 x2 x3), wg_bd (f_X2_has 11 x2 σ) (q_X11_set__3 x2 x3), wg_bd (f_X9_has 2 x2 σ) (q_X11_set__5 x2 x3), wg_bd (f_X0_hasCase 1 x2 σ) (q_X11_set__7 x2 x3)] (some ((0 : Int32), σ)) := by
  unfold f_X11_set
  simp only [sc_r0_0, sc_r1_0, sc_r1_1, sc_r1_3, sc_r2_1, sc_r11_0, sc_r11_1, sc_r281_0]
  rfl
def q_X11_tries__4 (s4 : wg_M) (v5 : Int32) : Option (Int32 × wg_M) := some (v5, s4)
def q_X11_tries__3 (x1 : Int32) (_u3 : Int32) (s4 : wg_M) : Option (Int32 × wg_M) := wg_ga 14 (s4 19) x1 (q_X11_tries__4 s4)
def q_X11_tries__2 (x1 : Int32) (x2 : Int32) (_u2 : Int32) (s3 : wg_M) : Option (Int32 × wg_M) := wg_bd (f_X1_tryCase 279 x1 x2 s3) (q_X11_tries__3 x1)
def q_X11_tries__1 (x1 : Int32) (x2 : Int32) (v1 : Int32) (s2 : wg_M) : Option (Int32 × wg_M) := if v1 = 0 then (some ((-10000 : Int32), s2)) else (wg_bd (f_X5_remember 258 1 s2) (q_X11_tries__2 x1 x2))
theorem e_X11_tries__1 (x1 : Int32) (x2 : Int32) (v1 : Int32) (s2 : wg_M) : q_X11_tries__1 x1 x2 v1 s2 = if v1 = 0 then (some ((-10000 : Int32), s2)) else (wg_bd (f_X5_remember 258 1 s2) (q_X11_tries__2 x1 x2)) := rfl
theorem e_X11_tries__2 (x1 : Int32) (x2 : Int32) (_u2 : Int32) (s3 : wg_M) : q_X11_tries__2 x1 x2 _u2 s3 = wg_bd (f_X1_tryCase 279 x1 x2 s3) (q_X11_tries__3 x1) := rfl
theorem e_X11_tries__3 (x1 : Int32) (_u3 : Int32) (s4 : wg_M) : q_X11_tries__3 x1 _u3 s4 = wg_ga 14 (s4 19) x1 (q_X11_tries__4 s4) := rfl
theorem e_X11_tries__4 (s4 : wg_M) (v5 : Int32) : q_X11_tries__4 s4 v5 = some (v5, s4) := rfl
theorem e_X11_tries (x1 : Int32) (x2 : Int32) (σ : wg_M) : f_X11_tries 281 x1 x2 σ = wg_bd (f_X1_canTry 279 x1 x2 σ) (q_X11_tries__1 x1 x2) := by
  unfold f_X11_tries
  simp only [sc_n19, sc_r0_0, sc_r1_4, sc_r281_0, sc_r281_2, sc_r281_4]
  rfl
def q_X11_act__3 (_u3 : Int32) (s4 : wg_M) : Option (Int32 × wg_M) := some ((1 : Int32), s4)
def q_X11_act__2 (x1 : Int32) (x2 : Int32) (x3 : Int32) (_u2 : Int32) (s3 : wg_M) : Option (Int32 × wg_M) := wg_bd (f_X1_doTo 279 x1 x2 x3 s3) q_X11_act__3
def q_X11_act__1 (x1 : Int32) (x2 : Int32) (x3 : Int32) (v1 : Int32) (s2 : wg_M) : Option (Int32 × wg_M) := if v1 = 0 then (some ((0 : Int32), s2)) else (wg_bd (f_X5_remember 258 1 s2) (q_X11_act__2 x1 x2 x3))
theorem e_X11_act__1 (x1 : Int32) (x2 : Int32) (x3 : Int32) (v1 : Int32) (s2 : wg_M) : q_X11_act__1 x1 x2 x3 v1 s2 = if v1 = 0 then (some ((0 : Int32), s2)) else (wg_bd (f_X5_remember 258 1 s2) (q_X11_act__2 x1 x2 x3)) := rfl
theorem e_X11_act__2 (x1 : Int32) (x2 : Int32) (x3 : Int32) (_u2 : Int32) (s3 : wg_M) : q_X11_act__2 x1 x2 x3 _u2 s3 = wg_bd (f_X1_doTo 279 x1 x2 x3 s3) q_X11_act__3 := rfl
theorem e_X11_act__3 (_u3 : Int32) (s4 : wg_M) : q_X11_act__3 _u3 s4 = some ((1 : Int32), s4) := rfl
theorem e_X11_act (x1 : Int32) (x2 : Int32) (x3 : Int32) (σ : wg_M) : f_X11_act 281 x1 x2 x3 σ = wg_bd (f_X1_canDo 279 x1 x2 x3 σ) (q_X11_act__1 x1 x2 x3) := by
  unfold f_X11_act
  simp only [sc_r0_0, sc_r281_0, sc_r281_2, sc_r281_4]
  rfl
def q_X11_years_61__3 (k34 : Nat → Int32 → Int32 → Int32 → wg_M → Option (Int32 × wg_M)) (x1 : Int32) (s2 : wg_M) (v3 : Int32) (v4 : Int32) : Option (Int32 × wg_M) := k34 281 x1 v3 v4 s2
def q_X11_years_61__2 (k34 : Nat → Int32 → Int32 → Int32 → wg_M → Option (Int32 × wg_M)) (x1 : Int32) (x3 : Int32) (s2 : wg_M) (v3 : Int32) : Option (Int32 × wg_M) := wg_let (x3 + (1 : Int32)) (q_X11_years_61__3 k34 x1 s2 v3)
def q_X11_years_61__1 (k34 : Nat → Int32 → Int32 → Int32 → wg_M → Option (Int32 × wg_M)) (x1 : Int32) (x2 : Int32) (x3 : Int32) (v1 : Int32) (s2 : wg_M) : Option (Int32 × wg_M) := wg_let (x2 + v1) (q_X11_years_61__2 k34 x1 x3 s2)
theorem e_X11_years_61__1 (k34 : Nat → Int32 → Int32 → Int32 → wg_M → Option (Int32 × wg_M)) (x1 : Int32) (x2 : Int32) (x3 : Int32) (v1 : Int32) (s2 : wg_M) : q_X11_years_61__1 k34 x1 x2 x3 v1 s2 = wg_let (x2 + v1) (q_X11_years_61__2 k34 x1 x3 s2) := rfl
theorem e_X11_years_61__2 (k34 : Nat → Int32 → Int32 → Int32 → wg_M → Option (Int32 × wg_M)) (x1 : Int32) (x3 : Int32) (s2 : wg_M) (v3 : Int32) : q_X11_years_61__2 k34 x1 x3 s2 v3 = wg_let (x3 + (1 : Int32)) (q_X11_years_61__3 k34 x1 s2 v3) := rfl
theorem e_X11_years_61__3 (k34 : Nat → Int32 → Int32 → Int32 → wg_M → Option (Int32 × wg_M)) (x1 : Int32) (s2 : wg_M) (v3 : Int32) (v4 : Int32) : q_X11_years_61__3 k34 x1 s2 v3 v4 = k34 281 x1 v3 v4 s2 := rfl
theorem e_X11_years_61 (k34 : Nat → Int32 → Int32 → Int32 → wg_M → Option (Int32 × wg_M)) (x1 : Int32) (x2 : Int32) (x3 : Int32) (σ : wg_M) : f_X11_years_61 k34 281 x1 x2 x3 σ = wg_bd (f_X1_passYear 279 σ) (q_X11_years_61__1 k34 x1 x2 x3) := by
  unfold f_X11_years_61
  simp only [sc_r281_4]
  rfl
def q_X11_years_34__1 (n : Nat) (x1 : Int32) (x2 : Int32) (x3 : Int32) (_u1 : Int32) (s1 : wg_M) : Option (Int32 × wg_M) := f_X11_years_61 (f_X11_years_34  n) 281 x1 x2 x3 s1
theorem e_X11_years_34__1 (n : Nat) (x1 : Int32) (x2 : Int32) (x3 : Int32) (_u1 : Int32) (s1 : wg_M) : q_X11_years_34__1 n x1 x2 x3 _u1 s1 = f_X11_years_61 (f_X11_years_34  n) 281 x1 x2 x3 s1 := rfl
theorem e_X11_years_34 (n : Nat) (x1 : Int32) (x2 : Int32) (x3 : Int32) (σ : wg_M) : f_X11_years_34 (n + 1) 281 x1 x2 x3 σ = if x1 ≤ x3 then (some (x2, σ)) else (if x3 < (x1 - (6 : Int32)) then (f_X11_years_61 (f_X11_years_34  n) 281 x1 x2 x3 σ) else (wg_bd (f_X5_remember 258 1 σ) (q_X11_years_34__1 n x1 x2 x3))) := by
  rw [f_X11_years_34]
  simp only [sc_r0_0, sc_r281_0, sc_r281_2]
  rfl
def q_X11_years__1 (x1 : Int32) (v1 : Int32) (s2 : wg_M) : Option (Int32 × wg_M) := if v1 = 0 then (some ((-1 : Int32), s2)) else (if (s2 1 7) ≤ ((9999 : Int32) - x1) then (f_X11_years_34  wg_N 281 x1 (0 : Int32) (0 : Int32) s2) else (some ((-1 : Int32), s2)))
theorem e_X11_years__1 (x1 : Int32) (v1 : Int32) (s2 : wg_M) : q_X11_years__1 x1 v1 s2 = if v1 = 0 then (some ((-1 : Int32), s2)) else (if (s2 1 7) ≤ ((9999 : Int32) - x1) then (f_X11_years_34  wg_N 281 x1 (0 : Int32) (0 : Int32) s2) else (some ((-1 : Int32), s2))) := rfl
theorem e_X11_years (x1 : Int32) (σ : wg_M) : f_X11_years 281 x1 σ = wg_bd (f_X11_within x1 (1 : Int32) (60 : Int32) σ) (q_X11_years__1 x1) := by
  unfold f_X11_years
  simp only [sc_r0_0, sc_r281_0]
  rfl
def q_X11_feed__6 (_u6 : Int32) (s7 : wg_M) : Option (Int32 × wg_M) := some (s7 260 2, s7)
def q_X11_feed__5 (x5 : Int32) (_u5 : Int32) (s6 : wg_M) : Option (Int32 × wg_M) := wg_bd (f_X6_addNumber 260 x5 s6) q_X11_feed__6
def q_X11_feed__4 (x4 : Int32) (x5 : Int32) (_u4 : Int32) (s5 : wg_M) : Option (Int32 × wg_M) := wg_bd (f_X6_addNumber 260 x4 s5) (q_X11_feed__5 x5)
def q_X11_feed__3 (x3 : Int32) (x4 : Int32) (x5 : Int32) (_u3 : Int32) (s4 : wg_M) : Option (Int32 × wg_M) := wg_bd (f_X6_addNumber 260 x3 s4) (q_X11_feed__4 x4 x5)
def q_X11_feed__2 (x2 : Int32) (x3 : Int32) (x4 : Int32) (x5 : Int32) (_u2 : Int32) (s3 : wg_M) : Option (Int32 × wg_M) := wg_bd (f_X6_addNumber 260 x2 s3) (q_X11_feed__3 x3 x4 x5)
def q_X11_feed__1 (x1 : Int32) (x2 : Int32) (x3 : Int32) (x4 : Int32) (x5 : Int32) (v1 : Int32) (s2 : wg_M) : Option (Int32 × wg_M) := if v1 = 0 then (some ((-1 : Int32), s2)) else (wg_bd (f_X6_addNumber 260 x1 s2) (q_X11_feed__2 x2 x3 x4 x5))
theorem e_X11_feed__1 (x1 : Int32) (x2 : Int32) (x3 : Int32) (x4 : Int32) (x5 : Int32) (v1 : Int32) (s2 : wg_M) : q_X11_feed__1 x1 x2 x3 x4 x5 v1 s2 = if v1 = 0 then (some ((-1 : Int32), s2)) else (wg_bd (f_X6_addNumber 260 x1 s2) (q_X11_feed__2 x2 x3 x4 x5)) := rfl
theorem e_X11_feed__2 (x2 : Int32) (x3 : Int32) (x4 : Int32) (x5 : Int32) (_u2 : Int32) (s3 : wg_M) : q_X11_feed__2 x2 x3 x4 x5 _u2 s3 = wg_bd (f_X6_addNumber 260 x2 s3) (q_X11_feed__3 x3 x4 x5) := rfl
theorem e_X11_feed__3 (x3 : Int32) (x4 : Int32) (x5 : Int32) (_u3 : Int32) (s4 : wg_M) : q_X11_feed__3 x3 x4 x5 _u3 s4 = wg_bd (f_X6_addNumber 260 x3 s4) (q_X11_feed__4 x4 x5) := rfl
theorem e_X11_feed__4 (x4 : Int32) (x5 : Int32) (_u4 : Int32) (s5 : wg_M) : q_X11_feed__4 x4 x5 _u4 s5 = wg_bd (f_X6_addNumber 260 x4 s5) (q_X11_feed__5 x5) := rfl
theorem e_X11_feed__5 (x5 : Int32) (_u5 : Int32) (s6 : wg_M) : q_X11_feed__5 x5 _u5 s6 = wg_bd (f_X6_addNumber 260 x5 s6) q_X11_feed__6 := rfl
theorem e_X11_feed__6 (_u6 : Int32) (s7 : wg_M) : q_X11_feed__6 _u6 s7 = some (s7 260 2, s7) := rfl
theorem e_X11_feed (x1 : Int32) (x2 : Int32) (x3 : Int32) (x4 : Int32) (x5 : Int32) (σ : wg_M) : f_X11_feed 281 x1 x2 x3 x4 x5 σ = wg_bd (f_X6_hasRoomFor 260 (20 : Int32) σ) (q_X11_feed__1 x1 x2 x3 x4 x5) := by
  unfold f_X11_feed
  simp only [sc_r281_3]
  rfl
def q_X11_end__2 (s3 : wg_M) : Option (Int32 × wg_M) := some ((1 : Int32), s3)
def q_X11_end__1 (x1 : Int32) (v1 : Int32) (s2 : wg_M) : Option (Int32 × wg_M) := if v1 = 0 then (some ((0 : Int32), s2)) else (wg_st s2 260 2 x1 q_X11_end__2)
theorem e_X11_end__1 (x1 : Int32) (v1 : Int32) (s2 : wg_M) : q_X11_end__1 x1 v1 s2 = if v1 = 0 then (some ((0 : Int32), s2)) else (wg_st s2 260 2 x1 q_X11_end__2) := rfl
theorem e_X11_end__2 (s3 : wg_M) : q_X11_end__2 s3 = some ((1 : Int32), s3) := rfl
theorem e_X11_end (x1 : Int32) (σ : wg_M) : f_X11_end 281 x1 σ = wg_bd (f_X11_within x1 (0 : Int32) (σ 260 2) σ) (q_X11_end__1 x1) := by
  unfold f_X11_end
  simp only [sc_r281_3]
  rfl
theorem e_X11_fault (x1 : Int32) (σ : wg_M) : f_X11_fault 281 x1 σ = wg_lz x1 [0, 1] [some (σ 260 8, σ), some (σ 260 9, σ)] (some ((-1 : Int32), σ)) := by
  unfold f_X11_fault
  simp only [sc_r281_3]
def q_X11_of__8 (v10 : Int32) (s11 : wg_M) : Option (Int32 × wg_M) := some (v10, s11)
def q_X11_of__7 (s2 : wg_M) (v9 : Int32) : Option (Int32 × wg_M) := some (v9, s2)
def q_X11_of__6 (v7 : Int32) (s8 : wg_M) : Option (Int32 × wg_M) := some (v7, s8)
def q_X11_of__5 (s2 : wg_M) (v6 : Int32) : Option (Int32 × wg_M) := some (v6, s2)
def q_X11_of__4 (s2 : wg_M) (v5 : Int32) : Option (Int32 × wg_M) := some (v5, s2)
def q_X11_of__3 (s2 : wg_M) (v4 : Int32) : Option (Int32 × wg_M) := some (v4, s2)
def q_X11_of__2 (s2 : wg_M) (v3 : Int32) : Option (Int32 × wg_M) := some (v3, s2)
def q_X11_of__1 (x1 : Int32) (x2 : Int32) (v1 : Int32) (s2 : wg_M) : Option (Int32 × wg_M) := if v1 = 0 then (some ((-2 : Int32), s2)) else (wg_sw x2 (0) [wg_ga 8 (s2 3) x1 (q_X11_of__2 s2), wg_ga 8 (s2 4) x1 (q_X11_of__3 s2), wg_ga 8 (s2 5) x1 (q_X11_of__4 s2), wg_ga 8 (s2 6) x1 (q_X11_of__5 s2), wg_bd (f_X2_wearer 11 x1 s2) q_X11_of__6, wg_ga 8 (s2 7) x1 (q_X11_of__7 s2), wg_bd (f_X1_mothOf 279 x1 s2) q_X11_of__8] (some ((-2 : Int32), s2)))
theorem e_X11_of__1 (x1 : Int32) (x2 : Int32) (v1 : Int32) (s2 : wg_M) : q_X11_of__1 x1 x2 v1 s2 = if v1 = 0 then (some ((-2 : Int32), s2)) else (wg_sw x2 (0) [wg_ga 8 (s2 3) x1 (q_X11_of__2 s2), wg_ga 8 (s2 4) x1 (q_X11_of__3 s2), wg_ga 8 (s2 5) x1 (q_X11_of__4 s2), wg_ga 8 (s2 6) x1 (q_X11_of__5 s2), wg_bd (f_X2_wearer 11 x1 s2) q_X11_of__6, wg_ga 8 (s2 7) x1 (q_X11_of__7 s2), wg_bd (f_X1_mothOf 279 x1 s2) q_X11_of__8] (some ((-2 : Int32), s2))) := rfl
theorem e_X11_of__2 (s2 : wg_M) (v3 : Int32) : q_X11_of__2 s2 v3 = some (v3, s2) := rfl
theorem e_X11_of__3 (s2 : wg_M) (v4 : Int32) : q_X11_of__3 s2 v4 = some (v4, s2) := rfl
theorem e_X11_of__4 (s2 : wg_M) (v5 : Int32) : q_X11_of__4 s2 v5 = some (v5, s2) := rfl
theorem e_X11_of__5 (s2 : wg_M) (v6 : Int32) : q_X11_of__5 s2 v6 = some (v6, s2) := rfl
theorem e_X11_of__6 (v7 : Int32) (s8 : wg_M) : q_X11_of__6 v7 s8 = some (v7, s8) := rfl
theorem e_X11_of__7 (s2 : wg_M) (v9 : Int32) : q_X11_of__7 s2 v9 = some (v9, s2) := rfl
theorem e_X11_of__8 (v10 : Int32) (s11 : wg_M) : q_X11_of__8 v10 s11 = some (v10, s11) := rfl
theorem e_X11_of (x1 : Int32) (x2 : Int32) (σ : wg_M) : f_X11_of 281 x1 x2 σ = wg_bd (f_X9_has 2 x1 σ) (q_X11_of__1 x1 x2) := by
  unfold f_X11_of
  simp only [sc_n3, sc_n4, sc_n5, sc_n6, sc_n7, sc_r0_0, sc_r1_0, sc_r1_1, sc_r2_0, sc_r2_1, sc_r2_2, sc_r2_3, sc_r2_4, sc_r281_0, sc_r281_4]
  rfl
def q_X11_ruleOf_118__1 (v1 : Int32) (s2 : wg_M) : Option (Int32 × wg_M) := some (v1, s2)
theorem e_X11_ruleOf_118__1 (v1 : Int32) (s2 : wg_M) : q_X11_ruleOf_118__1 v1 s2 = some (v1, s2) := rfl
theorem e_X11_ruleOf_118 (x1 : Int32) (x2 : Int32) (x3 : Int32) (t0 : Int32) (σ : wg_M) : f_X11_ruleOf_118 281 x1 x2 x3 t0 σ = if t0 = 0 then (some ((-100 : Int32), σ)) else (wg_bd (f_X1_countsOf 279 x1 x2 (x3 - (10 : Int32)) σ) q_X11_ruleOf_118__1) := by
  unfold f_X11_ruleOf_118
  simp only [sc_r281_4]
  rfl
theorem e_X11_ruleOf_117 (x1 : Int32) (x2 : Int32) (x3 : Int32) (σ : wg_M) : f_X11_ruleOf_117 281 x1 x2 x3 σ = f_X11_ruleOf_118  281 x1 x2 x3 (0 : Int32) σ := rfl
def q_X11_ruleOf__6 (x1 : Int32) (x2 : Int32) (x3 : Int32) (v7 : Int32) (s8 : wg_M) : Option (Int32 × wg_M) := if v7 = 0 then (f_X11_ruleOf_117  281 x1 x2 x3 s8) else (f_X11_ruleOf_118  281 x1 x2 x3 (1 : Int32) s8)
def q_X11_ruleOf__5 (s2 : wg_M) (v6 : Int32) : Option (Int32 × wg_M) := some (v6, s2)
def q_X11_ruleOf__4 (s2 : wg_M) (v5 : Int32) : Option (Int32 × wg_M) := some (v5, s2)
def q_X11_ruleOf__3 (s2 : wg_M) (v4 : Int32) : Option (Int32 × wg_M) := some (v4, s2)
def q_X11_ruleOf__2 (x1 : Int32) (x2 : Int32) (x3 : Int32) (s2 : wg_M) (v3 : Int32) : Option (Int32 × wg_M) := wg_sw x3 (0) [wg_ga 64 (s2 8) v3 (q_X11_ruleOf__3 s2), wg_ga 64 (s2 9) v3 (q_X11_ruleOf__4 s2), wg_ga 64 (s2 10) v3 (q_X11_ruleOf__5 s2)] (if x3 < (10 : Int32) then (f_X11_ruleOf_117  281 x1 x2 x3 s2) else (wg_bd (f_X2_has 11 (x3 - (10 : Int32)) s2) (q_X11_ruleOf__6 x1 x2 x3)))
def q_X11_ruleOf__1 (x1 : Int32) (x2 : Int32) (x3 : Int32) (v1 : Int32) (s2 : wg_M) : Option (Int32 × wg_M) := if v1 = 0 then (some ((-100 : Int32), s2)) else (wg_let ((x1 * (8 : Int32)) + x2) (q_X11_ruleOf__2 x1 x2 x3 s2))
theorem e_X11_ruleOf__1 (x1 : Int32) (x2 : Int32) (x3 : Int32) (v1 : Int32) (s2 : wg_M) : q_X11_ruleOf__1 x1 x2 x3 v1 s2 = if v1 = 0 then (some ((-100 : Int32), s2)) else (wg_let ((x1 * (8 : Int32)) + x2) (q_X11_ruleOf__2 x1 x2 x3 s2)) := rfl
theorem e_X11_ruleOf__2 (x1 : Int32) (x2 : Int32) (x3 : Int32) (s2 : wg_M) (v3 : Int32) : q_X11_ruleOf__2 x1 x2 x3 s2 v3 = wg_sw x3 (0) [wg_ga 64 (s2 8) v3 (q_X11_ruleOf__3 s2), wg_ga 64 (s2 9) v3 (q_X11_ruleOf__4 s2), wg_ga 64 (s2 10) v3 (q_X11_ruleOf__5 s2)] (if x3 < (10 : Int32) then (f_X11_ruleOf_117  281 x1 x2 x3 s2) else (wg_bd (f_X2_has 11 (x3 - (10 : Int32)) s2) (q_X11_ruleOf__6 x1 x2 x3))) := rfl
theorem e_X11_ruleOf__3 (s2 : wg_M) (v4 : Int32) : q_X11_ruleOf__3 s2 v4 = some (v4, s2) := rfl
theorem e_X11_ruleOf__4 (s2 : wg_M) (v5 : Int32) : q_X11_ruleOf__4 s2 v5 = some (v5, s2) := rfl
theorem e_X11_ruleOf__5 (s2 : wg_M) (v6 : Int32) : q_X11_ruleOf__5 s2 v6 = some (v6, s2) := rfl
theorem e_X11_ruleOf__6 (x1 : Int32) (x2 : Int32) (x3 : Int32) (v7 : Int32) (s8 : wg_M) : q_X11_ruleOf__6 x1 x2 x3 v7 s8 = if v7 = 0 then (f_X11_ruleOf_117  281 x1 x2 x3 s8) else (f_X11_ruleOf_118  281 x1 x2 x3 (1 : Int32) s8) := rfl
theorem e_X11_ruleOf (x1 : Int32) (x2 : Int32) (x3 : Int32) (σ : wg_M) : f_X11_ruleOf 281 x1 x2 x3 σ = wg_bd (f_X9_hasRule 2 x1 x2 σ) (q_X11_ruleOf__1 x1 x2 x3) := by
  unfold f_X11_ruleOf
  simp only [sc_n8, sc_n9, sc_n10, sc_r0_0, sc_r1_0, sc_r1_1, sc_r2_5, sc_r2_6, sc_r2_7, sc_r281_0]
  rfl
def q_X11_who__7 (v8 : Int32) (s9 : wg_M) : Option (Int32 × wg_M) := some (v8, s9)
def q_X11_who__6 (s2 : wg_M) (v7 : Int32) : Option (Int32 × wg_M) := some (v7, s2)
def q_X11_who__5 (s2 : wg_M) (v6 : Int32) : Option (Int32 × wg_M) := some (v6, s2)
def q_X11_who__4 (s2 : wg_M) (v5 : Int32) : Option (Int32 × wg_M) := some (v5, s2)
def q_X11_who__3 (s2 : wg_M) (v4 : Int32) : Option (Int32 × wg_M) := some (v4, s2)
def q_X11_who__2 (s2 : wg_M) (v3 : Int32) : Option (Int32 × wg_M) := some (v3, s2)
def q_X11_who__1 (x1 : Int32) (x2 : Int32) (v1 : Int32) (s2 : wg_M) : Option (Int32 × wg_M) := if v1 = 0 then (some ((-100 : Int32), s2)) else (wg_sw x2 (0) [wg_ga 10 (s2 12) x1 (q_X11_who__2 s2), wg_ga 10 (s2 13) x1 (q_X11_who__3 s2), wg_ga 10 (s2 14) x1 (q_X11_who__4 s2), wg_ga 10 (s2 15) x1 (q_X11_who__5 s2), wg_ga 10 (s2 16) x1 (q_X11_who__6 s2), wg_bd (f_X1_diesOf 279 x1 s2) q_X11_who__7] (some ((-100 : Int32), s2)))
theorem e_X11_who__1 (x1 : Int32) (x2 : Int32) (v1 : Int32) (s2 : wg_M) : q_X11_who__1 x1 x2 v1 s2 = if v1 = 0 then (some ((-100 : Int32), s2)) else (wg_sw x2 (0) [wg_ga 10 (s2 12) x1 (q_X11_who__2 s2), wg_ga 10 (s2 13) x1 (q_X11_who__3 s2), wg_ga 10 (s2 14) x1 (q_X11_who__4 s2), wg_ga 10 (s2 15) x1 (q_X11_who__5 s2), wg_ga 10 (s2 16) x1 (q_X11_who__6 s2), wg_bd (f_X1_diesOf 279 x1 s2) q_X11_who__7] (some ((-100 : Int32), s2))) := rfl
theorem e_X11_who__2 (s2 : wg_M) (v3 : Int32) : q_X11_who__2 s2 v3 = some (v3, s2) := rfl
theorem e_X11_who__3 (s2 : wg_M) (v4 : Int32) : q_X11_who__3 s2 v4 = some (v4, s2) := rfl
theorem e_X11_who__4 (s2 : wg_M) (v5 : Int32) : q_X11_who__4 s2 v5 = some (v5, s2) := rfl
theorem e_X11_who__5 (s2 : wg_M) (v6 : Int32) : q_X11_who__5 s2 v6 = some (v6, s2) := rfl
theorem e_X11_who__6 (s2 : wg_M) (v7 : Int32) : q_X11_who__6 s2 v7 = some (v7, s2) := rfl
theorem e_X11_who__7 (v8 : Int32) (s9 : wg_M) : q_X11_who__7 v8 s9 = some (v8, s9) := rfl
theorem e_X11_who (x1 : Int32) (x2 : Int32) (σ : wg_M) : f_X11_who 281 x1 x2 σ = wg_bd (f_X2_has 11 x1 σ) (q_X11_who__1 x1 x2) := by
  unfold f_X11_who
  simp only [sc_n12, sc_n13, sc_n14, sc_n15, sc_n16, sc_r0_0, sc_r1_1, sc_r11_0, sc_r11_1, sc_r11_2, sc_r11_3, sc_r11_4, sc_r281_0, sc_r281_4]
  rfl
def q_X11_trialOf__5 (s2 : wg_M) (v6 : Int32) : Option (Int32 × wg_M) := some (v6, s2)
def q_X11_trialOf__4 (s2 : wg_M) (v5 : Int32) : Option (Int32 × wg_M) := some (v5, s2)
def q_X11_trialOf__3 (s2 : wg_M) (v4 : Int32) : Option (Int32 × wg_M) := some (v4, s2)
def q_X11_trialOf__2 (s2 : wg_M) (v3 : Int32) : Option (Int32 × wg_M) := some (v3, s2)
def q_X11_trialOf__1 (x1 : Int32) (x2 : Int32) (v1 : Int32) (s2 : wg_M) : Option (Int32 × wg_M) := if v1 = 0 then (some ((-100000 : Int32), s2)) else (wg_sw x2 (0) [wg_ga 14 (s2 17) x1 (q_X11_trialOf__2 s2), wg_ga 14 (s2 18) x1 (q_X11_trialOf__3 s2), wg_ga 14 (s2 19) x1 (q_X11_trialOf__4 s2), wg_ga 14 (s2 20) x1 (q_X11_trialOf__5 s2)] (some ((-100000 : Int32), s2)))
theorem e_X11_trialOf__1 (x1 : Int32) (x2 : Int32) (v1 : Int32) (s2 : wg_M) : q_X11_trialOf__1 x1 x2 v1 s2 = if v1 = 0 then (some ((-100000 : Int32), s2)) else (wg_sw x2 (0) [wg_ga 14 (s2 17) x1 (q_X11_trialOf__2 s2), wg_ga 14 (s2 18) x1 (q_X11_trialOf__3 s2), wg_ga 14 (s2 19) x1 (q_X11_trialOf__4 s2), wg_ga 14 (s2 20) x1 (q_X11_trialOf__5 s2)] (some ((-100000 : Int32), s2))) := rfl
theorem e_X11_trialOf__2 (s2 : wg_M) (v3 : Int32) : q_X11_trialOf__2 s2 v3 = some (v3, s2) := rfl
theorem e_X11_trialOf__3 (s2 : wg_M) (v4 : Int32) : q_X11_trialOf__3 s2 v4 = some (v4, s2) := rfl
theorem e_X11_trialOf__4 (s2 : wg_M) (v5 : Int32) : q_X11_trialOf__4 s2 v5 = some (v5, s2) := rfl
theorem e_X11_trialOf__5 (s2 : wg_M) (v6 : Int32) : q_X11_trialOf__5 s2 v6 = some (v6, s2) := rfl
theorem e_X11_trialOf (x1 : Int32) (x2 : Int32) (σ : wg_M) : f_X11_trialOf 281 x1 x2 σ = wg_bd (f_X0_hasCase 1 x1 σ) (q_X11_trialOf__1 x1 x2) := by
  unfold f_X11_trialOf
  simp only [sc_n17, sc_n18, sc_n19, sc_n20, sc_r0_0, sc_r1_2, sc_r1_3, sc_r1_4, sc_r1_5, sc_r281_0]
  rfl
def q_X11_book__5 (s2 : wg_M) (v6 : Int32) : Option (Int32 × wg_M) := some (v6, s2)
def q_X11_book__4 (s2 : wg_M) (v5 : Int32) : Option (Int32 × wg_M) := some (v5, s2)
def q_X11_book__3 (s2 : wg_M) (v4 : Int32) : Option (Int32 × wg_M) := some (v4, s2)
def q_X11_book__2 (s2 : wg_M) (v3 : Int32) : Option (Int32 × wg_M) := some (v3, s2)
def q_X11_book__1 (x1 : Int32) (x2 : Int32) (v1 : Int32) (s2 : wg_M) : Option (Int32 × wg_M) := if v1 = 0 then (some ((-10000 : Int32), s2)) else (wg_sw x2 (0) [wg_ga 150 (s2 22) x1 (q_X11_book__2 s2), wg_ga 150 (s2 23) x1 (q_X11_book__3 s2), wg_ga 150 (s2 24) x1 (q_X11_book__4 s2), wg_ga 150 (s2 25) x1 (q_X11_book__5 s2)] (some ((-10000 : Int32), s2)))
theorem e_X11_book__1 (x1 : Int32) (x2 : Int32) (v1 : Int32) (s2 : wg_M) : q_X11_book__1 x1 x2 v1 s2 = if v1 = 0 then (some ((-10000 : Int32), s2)) else (wg_sw x2 (0) [wg_ga 150 (s2 22) x1 (q_X11_book__2 s2), wg_ga 150 (s2 23) x1 (q_X11_book__3 s2), wg_ga 150 (s2 24) x1 (q_X11_book__4 s2), wg_ga 150 (s2 25) x1 (q_X11_book__5 s2)] (some ((-10000 : Int32), s2))) := rfl
theorem e_X11_book__2 (s2 : wg_M) (v3 : Int32) : q_X11_book__2 s2 v3 = some (v3, s2) := rfl
theorem e_X11_book__3 (s2 : wg_M) (v4 : Int32) : q_X11_book__3 s2 v4 = some (v4, s2) := rfl
theorem e_X11_book__4 (s2 : wg_M) (v5 : Int32) : q_X11_book__4 s2 v5 = some (v5, s2) := rfl
theorem e_X11_book__5 (s2 : wg_M) (v6 : Int32) : q_X11_book__5 s2 v6 = some (v6, s2) := rfl
theorem e_X11_book (x1 : Int32) (x2 : Int32) (σ : wg_M) : f_X11_book 281 x1 x2 σ = wg_bd (f_X11_within x1 (0 : Int32) ((σ 1 9) - (1 : Int32)) σ) (q_X11_book__1 x1 x2) := by
  unfold f_X11_book
  simp only [sc_n22, sc_n23, sc_n24, sc_n25, sc_r0_0, sc_r0_1, sc_r21_0, sc_r21_1, sc_r21_2, sc_r21_3, sc_r281_0]
  rfl
def q_X11_goes_30__4 (n : Nat) (x1 : Int32) (x2 : Int32) (s5 : wg_M) (v6 : Int32) : Option (Int32 × wg_M) := f_X11_goes_30  n 281 x1 x2 v6 s5
def q_X11_goes_30__3 (n : Nat) (x1 : Int32) (x2 : Int32) (x3 : Int32) (v4 : Int32) (s5 : wg_M) : Option (Int32 × wg_M) := wg_let (x3 + (1 : Int32)) (q_X11_goes_30__4 n x1 x2 s5)
def q_X11_goes_30__2 (v1 : Int32) (_u2 : Int32) (s3 : wg_M) : Option (Int32 × wg_M) := some (v1, s3)
def q_X11_goes_30__1 (v1 : Int32) (s2 : wg_M) : Option (Int32 × wg_M) := wg_bd (f_X1_endThought 279 s2) (q_X11_goes_30__2 v1)
theorem e_X11_goes_30__1 (v1 : Int32) (s2 : wg_M) : q_X11_goes_30__1 v1 s2 = wg_bd (f_X1_endThought 279 s2) (q_X11_goes_30__2 v1) := rfl
theorem e_X11_goes_30__2 (v1 : Int32) (_u2 : Int32) (s3 : wg_M) : q_X11_goes_30__2 v1 _u2 s3 = some (v1, s3) := rfl
theorem e_X11_goes_30__3 (n : Nat) (x1 : Int32) (x2 : Int32) (x3 : Int32) (v4 : Int32) (s5 : wg_M) : q_X11_goes_30__3 n x1 x2 x3 v4 s5 = wg_let (x3 + (1 : Int32)) (q_X11_goes_30__4 n x1 x2 s5) := rfl
theorem e_X11_goes_30__4 (n : Nat) (x1 : Int32) (x2 : Int32) (s5 : wg_M) (v6 : Int32) : q_X11_goes_30__4 n x1 x2 s5 v6 = f_X11_goes_30  n 281 x1 x2 v6 s5 := rfl
theorem e_X11_goes_30 (n : Nat) (x1 : Int32) (x2 : Int32) (x3 : Int32) (σ : wg_M) : f_X11_goes_30 (n + 1) 281 x1 x2 x3 σ = if x1 ≤ x3 then (wg_bd (f_X0_sumUp 1 x2 σ) q_X11_goes_30__1) else (wg_bd (f_X1_passYear 279 σ) (q_X11_goes_30__3 n x1 x2 x3)) := by
  rw [f_X11_goes_30]
  simp only [sc_r0_0, sc_r281_0, sc_r281_4]
  rfl
def q_X11_goes__3 (x1 : Int32) (x2 : Int32) (_u3 : Int32) (s5 : wg_M) : Option (Int32 × wg_M) := f_X11_goes_30  wg_N 281 x1 x2 (0 : Int32) s5
def q_X11_goes__2 (x1 : Int32) (x2 : Int32) (v3 : Int32) (s4 : wg_M) : Option (Int32 × wg_M) := if v3 = 0 then (some ((-1 : Int32), s4)) else (wg_bd (f_X1_beginThought 279 s4) (q_X11_goes__3 x1 x2))
def q_X11_goes__1 (x1 : Int32) (x2 : Int32) (v1 : Int32) (s2 : wg_M) : Option (Int32 × wg_M) := if v1 = 0 then (some ((-1 : Int32), s2)) else (wg_bd (f_X11_within x2 (0 : Int32) (3 : Int32) s2) (q_X11_goes__2 x1 x2))
theorem e_X11_goes__1 (x1 : Int32) (x2 : Int32) (v1 : Int32) (s2 : wg_M) : q_X11_goes__1 x1 x2 v1 s2 = if v1 = 0 then (some ((-1 : Int32), s2)) else (wg_bd (f_X11_within x2 (0 : Int32) (3 : Int32) s2) (q_X11_goes__2 x1 x2)) := rfl
theorem e_X11_goes__2 (x1 : Int32) (x2 : Int32) (v3 : Int32) (s4 : wg_M) : q_X11_goes__2 x1 x2 v3 s4 = if v3 = 0 then (some ((-1 : Int32), s4)) else (wg_bd (f_X1_beginThought 279 s4) (q_X11_goes__3 x1 x2)) := rfl
theorem e_X11_goes__3 (x1 : Int32) (x2 : Int32) (_u3 : Int32) (s5 : wg_M) : q_X11_goes__3 x1 x2 _u3 s5 = f_X11_goes_30  wg_N 281 x1 x2 (0 : Int32) s5 := rfl
theorem e_X11_goes (x1 : Int32) (x2 : Int32) (σ : wg_M) : f_X11_goes 281 x1 x2 σ = wg_bd (f_X11_within x1 (1 : Int32) (60 : Int32) σ) (q_X11_goes__1 x1 x2) := by
  unfold f_X11_goes
  simp only [sc_r281_4]
  rfl
def q_X11_would__3 (v5 : Int32) (s6 : wg_M) : Option (Int32 × wg_M) := some (v5, s6)
def q_X11_would__2 (x1 : Int32) (x2 : Int32) (v3 : Int32) (s4 : wg_M) : Option (Int32 × wg_M) := if v3 = 0 then (some ((-10000 : Int32), s4)) else (wg_bd (f_X1_verdictOf 279 x1 x2 s4) q_X11_would__3)
def q_X11_would__1 (x1 : Int32) (x2 : Int32) (v1 : Int32) (s2 : wg_M) : Option (Int32 × wg_M) := if v1 = 0 then (some ((-10000 : Int32), s2)) else (wg_bd (f_X2_lives 11 x2 s2) (q_X11_would__2 x1 x2))
theorem e_X11_would__1 (x1 : Int32) (x2 : Int32) (v1 : Int32) (s2 : wg_M) : q_X11_would__1 x1 x2 v1 s2 = if v1 = 0 then (some ((-10000 : Int32), s2)) else (wg_bd (f_X2_lives 11 x2 s2) (q_X11_would__2 x1 x2)) := rfl
theorem e_X11_would__2 (x1 : Int32) (x2 : Int32) (v3 : Int32) (s4 : wg_M) : q_X11_would__2 x1 x2 v3 s4 = if v3 = 0 then (some ((-10000 : Int32), s4)) else (wg_bd (f_X1_verdictOf 279 x1 x2 s4) q_X11_would__3) := rfl
theorem e_X11_would__3 (v5 : Int32) (s6 : wg_M) : q_X11_would__3 v5 s6 = some (v5, s6) := rfl
theorem e_X11_would (x1 : Int32) (x2 : Int32) (σ : wg_M) : f_X11_would 281 x1 x2 σ = wg_bd (f_X0_hasCase 1 x1 σ) (q_X11_would__1 x1 x2) := by
  unfold f_X11_would
  simp only [sc_r0_0, sc_r1_1, sc_r281_0, sc_r281_4]
  rfl
def q_X11_forum_39__1 (v1 : Int32) (s2 : wg_M) : Option (Int32 × wg_M) := some (v1, s2)
theorem e_X11_forum_39__1 (v1 : Int32) (s2 : wg_M) : q_X11_forum_39__1 v1 s2 = some (v1, s2) := rfl
theorem e_X11_forum_39 (t0 : Int32) (t1 : Int32) (t2 : Nat) (σ : wg_M) : f_X11_forum_39 t0 t1 t2 σ = wg_bd (f_X7_forumOf t2 t1 t0 σ) q_X11_forum_39__1 := rfl
def q_X11_forum__2 (x1 : Int32) (x2 : Int32) (v3 : Int32) (s4 : wg_M) : Option (Int32 × wg_M) := if v3 = 0 then (some ((-1 : Int32), s4)) else (if x2 = 0 then (f_X11_forum_39  (1 : Int32) x1 280 s4) else (f_X11_forum_39  (0 : Int32) x1 280 s4))
def q_X11_forum__1 (x1 : Int32) (x2 : Int32) (v1 : Int32) (s2 : wg_M) : Option (Int32 × wg_M) := if v1 = 0 then (some ((-1 : Int32), s2)) else (wg_bd (f_X11_within x2 (0 : Int32) (1 : Int32) s2) (q_X11_forum__2 x1 x2))
theorem e_X11_forum__1 (x1 : Int32) (x2 : Int32) (v1 : Int32) (s2 : wg_M) : q_X11_forum__1 x1 x2 v1 s2 = if v1 = 0 then (some ((-1 : Int32), s2)) else (wg_bd (f_X11_within x2 (0 : Int32) (1 : Int32) s2) (q_X11_forum__2 x1 x2)) := rfl
theorem e_X11_forum__2 (x1 : Int32) (x2 : Int32) (v3 : Int32) (s4 : wg_M) : q_X11_forum__2 x1 x2 v3 s4 = if v3 = 0 then (some ((-1 : Int32), s4)) else (if x2 = 0 then (f_X11_forum_39  (1 : Int32) x1 280 s4) else (f_X11_forum_39  (0 : Int32) x1 280 s4)) := rfl
theorem e_X11_forum (x1 : Int32) (x2 : Int32) (σ : wg_M) : f_X11_forum 281 x1 x2 σ = wg_bd (f_X0_hasCase 1 x1 σ) (q_X11_forum__1 x1 x2) := by
  unfold f_X11_forum
  simp only [sc_r0_0, sc_r281_0, sc_r281_5]
  rfl
def q_X11_combs__4 (v7 : Int32) (s8 : wg_M) : Option (Int32 × wg_M) := some (v7, s8)
def q_X11_combs__3 (x2 : Int32) (v5 : Int32) (s6 : wg_M) : Option (Int32 × wg_M) := if x2 = 0 then (wg_bd (f_J6_bitCount_0f7a4 v5 s6) q_X11_combs__4) else (some (v5, s6))
def q_X11_combs__2 (x1 : Int32) (x2 : Int32) (v3 : Int32) (s4 : wg_M) : Option (Int32 × wg_M) := if v3 = 0 then (some ((-1 : Int32), s4)) else (wg_bd (f_X9_toComb 2 x1 s4) (q_X11_combs__3 x2))
def q_X11_combs__1 (x1 : Int32) (x2 : Int32) (v1 : Int32) (s2 : wg_M) : Option (Int32 × wg_M) := if v1 = 0 then (some ((-1 : Int32), s2)) else (wg_bd (f_X11_within x2 (0 : Int32) (1 : Int32) s2) (q_X11_combs__2 x1 x2))
theorem e_X11_combs__1 (x1 : Int32) (x2 : Int32) (v1 : Int32) (s2 : wg_M) : q_X11_combs__1 x1 x2 v1 s2 = if v1 = 0 then (some ((-1 : Int32), s2)) else (wg_bd (f_X11_within x2 (0 : Int32) (1 : Int32) s2) (q_X11_combs__2 x1 x2)) := rfl
theorem e_X11_combs__2 (x1 : Int32) (x2 : Int32) (v3 : Int32) (s4 : wg_M) : q_X11_combs__2 x1 x2 v3 s4 = if v3 = 0 then (some ((-1 : Int32), s4)) else (wg_bd (f_X9_toComb 2 x1 s4) (q_X11_combs__3 x2)) := rfl
theorem e_X11_combs__3 (x2 : Int32) (v5 : Int32) (s6 : wg_M) : q_X11_combs__3 x2 v5 s6 = if x2 = 0 then (wg_bd (f_J6_bitCount_0f7a4 v5 s6) q_X11_combs__4) else (some (v5, s6)) := rfl
theorem e_X11_combs__4 (v7 : Int32) (s8 : wg_M) : q_X11_combs__4 v7 s8 = some (v7, s8) := rfl
theorem e_X11_combs (x1 : Int32) (x2 : Int32) (σ : wg_M) : f_X11_combs 281 x1 x2 σ = wg_bd (f_X9_has 2 x1 σ) (q_X11_combs__1 x1 x2) := by
  unfold f_X11_combs
  simp only [sc_r0_0, sc_r1_0, sc_r281_0]
  rfl
def q_X11_alike__4 (v5 : Int32) (s6 : wg_M) : Option (Int32 × wg_M) := some (v5, s6)
def q_X11_alike__3 (x1 : Int32) (x2 : Int32) (v3 : Int32) (s4 : wg_M) : Option (Int32 × wg_M) := if v3 = 0 then (some ((-1 : Int32), s4)) else (wg_bd (f_X9_apart 2 x1 x2 s4) q_X11_alike__4)
def q_X11_alike__2 (v7 : Int32) (s8 : wg_M) : Option (Int32 × wg_M) := some (v7, s8)
def q_X11_alike__1 (x1 : Int32) (x2 : Int32) (v1 : Int32) (s2 : wg_M) : Option (Int32 × wg_M) := if v1 = 0 then (some ((-1 : Int32), s2)) else (if x2 = (-1 : Int32) then (wg_bd (f_X9_nearest 2 x1 s2) q_X11_alike__2) else (wg_bd (f_X9_has 2 x2 s2) (q_X11_alike__3 x1 x2)))
theorem e_X11_alike__1 (x1 : Int32) (x2 : Int32) (v1 : Int32) (s2 : wg_M) : q_X11_alike__1 x1 x2 v1 s2 = if v1 = 0 then (some ((-1 : Int32), s2)) else (if x2 = (-1 : Int32) then (wg_bd (f_X9_nearest 2 x1 s2) q_X11_alike__2) else (wg_bd (f_X9_has 2 x2 s2) (q_X11_alike__3 x1 x2))) := rfl
theorem e_X11_alike__2 (v7 : Int32) (s8 : wg_M) : q_X11_alike__2 v7 s8 = some (v7, s8) := rfl
theorem e_X11_alike__3 (x1 : Int32) (x2 : Int32) (v3 : Int32) (s4 : wg_M) : q_X11_alike__3 x1 x2 v3 s4 = if v3 = 0 then (some ((-1 : Int32), s4)) else (wg_bd (f_X9_apart 2 x1 x2 s4) q_X11_alike__4) := rfl
theorem e_X11_alike__4 (v5 : Int32) (s6 : wg_M) : q_X11_alike__4 v5 s6 = some (v5, s6) := rfl
theorem e_X11_alike (x1 : Int32) (x2 : Int32) (σ : wg_M) : f_X11_alike 281 x1 x2 σ = wg_bd (f_X9_has 2 x1 σ) (q_X11_alike__1 x1 x2) := by
  unfold f_X11_alike
  simp only [sc_r0_0, sc_r1_0, sc_r281_0]
  rfl
def q_X11_heir__3 (v5 : Int32) (s6 : wg_M) : Option (Int32 × wg_M) := some (v5, s6)
def q_X11_heir__2 (x1 : Int32) (x2 : Int32) (v3 : Int32) (s4 : wg_M) : Option (Int32 × wg_M) := if v3 = 0 then (some ((-1 : Int32), s4)) else (wg_bd (f_X7_heirOf 280 x1 x2 s4) q_X11_heir__3)
def q_X11_heir__1 (x1 : Int32) (x2 : Int32) (v1 : Int32) (s2 : wg_M) : Option (Int32 × wg_M) := if v1 = 0 then (some ((-1 : Int32), s2)) else (wg_bd (f_X11_within x2 (1 : Int32) (9 : Int32) s2) (q_X11_heir__2 x1 x2))
theorem e_X11_heir__1 (x1 : Int32) (x2 : Int32) (v1 : Int32) (s2 : wg_M) : q_X11_heir__1 x1 x2 v1 s2 = if v1 = 0 then (some ((-1 : Int32), s2)) else (wg_bd (f_X11_within x2 (1 : Int32) (9 : Int32) s2) (q_X11_heir__2 x1 x2)) := rfl
theorem e_X11_heir__2 (x1 : Int32) (x2 : Int32) (v3 : Int32) (s4 : wg_M) : q_X11_heir__2 x1 x2 v3 s4 = if v3 = 0 then (some ((-1 : Int32), s4)) else (wg_bd (f_X7_heirOf 280 x1 x2 s4) q_X11_heir__3) := rfl
theorem e_X11_heir__3 (v5 : Int32) (s6 : wg_M) : q_X11_heir__3 v5 s6 = some (v5, s6) := rfl
theorem e_X11_heir (x1 : Int32) (x2 : Int32) (σ : wg_M) : f_X11_heir 281 x1 x2 σ = wg_bd (f_X9_has 2 x1 σ) (q_X11_heir__1 x1 x2) := by
  unfold f_X11_heir
  simp only [sc_r0_0, sc_r1_0, sc_r281_0, sc_r281_5]
  rfl
def q_X11_kin__4 (v5 : Int32) (s6 : wg_M) : Option (Int32 × wg_M) := some (v5, s6)
def q_X11_kin__3 (x1 : Int32) (x2 : Int32) (v3 : Int32) (s4 : wg_M) : Option (Int32 × wg_M) := if v3 = 0 then (some ((-1 : Int32), s4)) else (wg_bd (f_X7_commonOf 280 x1 x2 s4) q_X11_kin__4)
def q_X11_kin__2 (v7 : Int32) (s8 : wg_M) : Option (Int32 × wg_M) := some (v7, s8)
def q_X11_kin__1 (x1 : Int32) (x2 : Int32) (v1 : Int32) (s2 : wg_M) : Option (Int32 × wg_M) := if v1 = 0 then (some ((-1 : Int32), s2)) else (if x2 = (-1 : Int32) then (wg_bd (f_X7_rootOf 280 x1 s2) q_X11_kin__2) else (wg_bd (f_X9_has 2 x2 s2) (q_X11_kin__3 x1 x2)))
theorem e_X11_kin__1 (x1 : Int32) (x2 : Int32) (v1 : Int32) (s2 : wg_M) : q_X11_kin__1 x1 x2 v1 s2 = if v1 = 0 then (some ((-1 : Int32), s2)) else (if x2 = (-1 : Int32) then (wg_bd (f_X7_rootOf 280 x1 s2) q_X11_kin__2) else (wg_bd (f_X9_has 2 x2 s2) (q_X11_kin__3 x1 x2))) := rfl
theorem e_X11_kin__2 (v7 : Int32) (s8 : wg_M) : q_X11_kin__2 v7 s8 = some (v7, s8) := rfl
theorem e_X11_kin__3 (x1 : Int32) (x2 : Int32) (v3 : Int32) (s4 : wg_M) : q_X11_kin__3 x1 x2 v3 s4 = if v3 = 0 then (some ((-1 : Int32), s4)) else (wg_bd (f_X7_commonOf 280 x1 x2 s4) q_X11_kin__4) := rfl
theorem e_X11_kin__4 (v5 : Int32) (s6 : wg_M) : q_X11_kin__4 v5 s6 = some (v5, s6) := rfl
theorem e_X11_kin (x1 : Int32) (x2 : Int32) (σ : wg_M) : f_X11_kin 281 x1 x2 σ = wg_bd (f_X9_has 2 x1 σ) (q_X11_kin__1 x1 x2) := by
  unfold f_X11_kin
  simp only [sc_r0_0, sc_r1_0, sc_r281_0, sc_r281_5]
  rfl
def q_X11_saves__4 (v7 : Int32) (s8 : wg_M) : Option (Int32 × wg_M) := some (v7, s8)
def q_X11_saves__3 (x2 : Int32) (v5 : Int32) (s6 : wg_M) : Option (Int32 × wg_M) := if x2 = 0 then (wg_bd (f_X9_worthOf 2 v5 s6) q_X11_saves__4) else (some (v5, s6))
def q_X11_saves__2 (x1 : Int32) (x2 : Int32) (v3 : Int32) (s4 : wg_M) : Option (Int32 × wg_M) := if v3 = 0 then (some ((-1 : Int32), s4)) else (wg_bd (f_X9_toSave 2 x1 s4) (q_X11_saves__3 x2))
def q_X11_saves__1 (x1 : Int32) (x2 : Int32) (v1 : Int32) (s2 : wg_M) : Option (Int32 × wg_M) := if v1 = 0 then (some ((-1 : Int32), s2)) else (wg_bd (f_X11_within x2 (0 : Int32) (1 : Int32) s2) (q_X11_saves__2 x1 x2))
theorem e_X11_saves__1 (x1 : Int32) (x2 : Int32) (v1 : Int32) (s2 : wg_M) : q_X11_saves__1 x1 x2 v1 s2 = if v1 = 0 then (some ((-1 : Int32), s2)) else (wg_bd (f_X11_within x2 (0 : Int32) (1 : Int32) s2) (q_X11_saves__2 x1 x2)) := rfl
theorem e_X11_saves__2 (x1 : Int32) (x2 : Int32) (v3 : Int32) (s4 : wg_M) : q_X11_saves__2 x1 x2 v3 s4 = if v3 = 0 then (some ((-1 : Int32), s4)) else (wg_bd (f_X9_toSave 2 x1 s4) (q_X11_saves__3 x2)) := rfl
theorem e_X11_saves__3 (x2 : Int32) (v5 : Int32) (s6 : wg_M) : q_X11_saves__3 x2 v5 s6 = if x2 = 0 then (wg_bd (f_X9_worthOf 2 v5 s6) q_X11_saves__4) else (some (v5, s6)) := rfl
theorem e_X11_saves__4 (v7 : Int32) (s8 : wg_M) : q_X11_saves__4 v7 s8 = some (v7, s8) := rfl
theorem e_X11_saves (x1 : Int32) (x2 : Int32) (σ : wg_M) : f_X11_saves 281 x1 x2 σ = wg_bd (f_X11_within x1 (1 : Int32) (400 : Int32) σ) (q_X11_saves__1 x1 x2) := by
  unfold f_X11_saves
  simp only [sc_r0_0, sc_r1_0, sc_r281_0]
  rfl
def q_X11_panels__4 (v5 : Int32) (s6 : wg_M) : Option (Int32 × wg_M) := some (v5, s6)
def q_X11_panels__3 (x1 : Int32) (x2 : Int32) (v3 : Int32) (s4 : wg_M) : Option (Int32 × wg_M) := if v3 = 0 then (some ((-1 : Int32), s4)) else (wg_bd (f_X7_turnsOf 280 x1 (x2 - (10 : Int32)) s4) q_X11_panels__4)
def q_X11_panels__2 (v7 : Int32) (s8 : wg_M) : Option (Int32 × wg_M) := some (v7, s8)
def q_X11_panels__1 (x1 : Int32) (x2 : Int32) (v1 : Int32) (s2 : wg_M) : Option (Int32 × wg_M) := if v1 = 0 then (some ((-1 : Int32), s2)) else (if x2 = 0 then (wg_bd (f_X7_panelsFor 280 x1 s2) q_X11_panels__2) else (if x2 < (10 : Int32) then (some ((-1 : Int32), s2)) else (wg_bd (f_X2_has 11 (x2 - (10 : Int32)) s2) (q_X11_panels__3 x1 x2))))
theorem e_X11_panels__1 (x1 : Int32) (x2 : Int32) (v1 : Int32) (s2 : wg_M) : q_X11_panels__1 x1 x2 v1 s2 = if v1 = 0 then (some ((-1 : Int32), s2)) else (if x2 = 0 then (wg_bd (f_X7_panelsFor 280 x1 s2) q_X11_panels__2) else (if x2 < (10 : Int32) then (some ((-1 : Int32), s2)) else (wg_bd (f_X2_has 11 (x2 - (10 : Int32)) s2) (q_X11_panels__3 x1 x2)))) := rfl
theorem e_X11_panels__2 (v7 : Int32) (s8 : wg_M) : q_X11_panels__2 v7 s8 = some (v7, s8) := rfl
theorem e_X11_panels__3 (x1 : Int32) (x2 : Int32) (v3 : Int32) (s4 : wg_M) : q_X11_panels__3 x1 x2 v3 s4 = if v3 = 0 then (some ((-1 : Int32), s4)) else (wg_bd (f_X7_turnsOf 280 x1 (x2 - (10 : Int32)) s4) q_X11_panels__4) := rfl
theorem e_X11_panels__4 (v5 : Int32) (s6 : wg_M) : q_X11_panels__4 v5 s6 = some (v5, s6) := rfl
theorem e_X11_panels (x1 : Int32) (x2 : Int32) (σ : wg_M) : f_X11_panels 281 x1 x2 σ = wg_bd (f_X0_hasCase 1 x1 σ) (q_X11_panels__1 x1 x2) := by
  unfold f_X11_panels
  simp only [sc_r0_0, sc_r1_1, sc_r281_0, sc_r281_5]
  rfl
def q_X11_trait_36__1 (v1 : Int32) (s2 : wg_M) : Option (Int32 × wg_M) := some (v1, s2)
theorem e_X11_trait_36__1 (v1 : Int32) (s2 : wg_M) : q_X11_trait_36__1 v1 s2 = some (v1, s2) := rfl
theorem e_X11_trait_36 (t0 : Int32) (t1 : Int32) (t2 : Int32) (t3 : Nat) (σ : wg_M) : f_X11_trait_36 t0 t1 t2 t3 σ = wg_bd (f_X8_addTrait t3 t2 t1 t0 σ) q_X11_trait_36__1 := rfl
def q_X11_trait__1 (s1 : wg_M) : Option (Int32 × wg_M) := some ((0 : Int32), s1)
theorem e_X11_trait__1 (s1 : wg_M) : q_X11_trait__1 s1 = some ((0 : Int32), s1) := rfl
theorem e_X11_trait (x1 : Int32) (x2 : Int32) (x3 : Int32) (σ : wg_M) : f_X11_trait 281 x1 x2 x3 σ = if x1 = (-1 : Int32) then (wg_st σ 49 3 (0 : Int32) q_X11_trait__1) else (if x3 = 0 then (f_X11_trait_36  (0 : Int32) x2 x1 49 σ) else (f_X11_trait_36  (1 : Int32) x2 x1 49 σ)) := by
  unfold f_X11_trait
  simp only [sc_r0_6, sc_r281_0]
  rfl
def q_X11_whose__2 (v3 : Int32) (s4 : wg_M) : Option (Int32 × wg_M) := some (v3, s4)
def q_X11_whose__1 (v1 : Int32) (s2 : wg_M) : Option (Int32 × wg_M) := some (v1, s2)
theorem e_X11_whose__1 (v1 : Int32) (s2 : wg_M) : q_X11_whose__1 v1 s2 = some (v1, s2) := rfl
theorem e_X11_whose__2 (v3 : Int32) (s4 : wg_M) : q_X11_whose__2 v3 s4 = some (v3, s4) := rfl
theorem e_X11_whose (x1 : Int32) (σ : wg_M) : f_X11_whose 281 x1 σ = wg_lz x1 [0, 1] [wg_bd (f_X7_whoseSet 280 σ) q_X11_whose__1, wg_bd (f_X7_causeToLookAt 280 σ) q_X11_whose__2] (some ((-1 : Int32), σ)) := by
  unfold f_X11_whose
  simp only [sc_r281_5]
  rfl
def q_X11_cite__2 (v1 : Int32) (s2 : wg_M) : Option (Int32 × wg_M) := some (v1, s2)
def q_X11_cite__1 (s3 : wg_M) : Option (Int32 × wg_M) := some ((0 : Int32), s3)
theorem e_X11_cite__1 (s3 : wg_M) : q_X11_cite__1 s3 = some ((0 : Int32), s3) := rfl
theorem e_X11_cite__2 (v1 : Int32) (s2 : wg_M) : q_X11_cite__2 v1 s2 = some (v1, s2) := rfl
theorem e_X11_cite (x1 : Int32) (x2 : Int32) (σ : wg_M) : f_X11_cite 281 x1 x2 σ = if x1 = (-1 : Int32) then (wg_st σ 49 6 (0 : Int32) q_X11_cite__1) else (wg_bd (f_X8_addCite 49 x1 x2 σ) q_X11_cite__2) := by
  unfold f_X11_cite
  simp only [sc_r0_6, sc_r281_0]
  rfl
def q_X11_chain_26__1 (v1 : Int32) (s2 : wg_M) : Option (Int32 × wg_M) := some (v1, s2)
theorem e_X11_chain_26__1 (v1 : Int32) (s2 : wg_M) : q_X11_chain_26__1 v1 s2 = some (v1, s2) := rfl
theorem e_X11_chain_26 (t0 : Int32) (t1 : Nat) (σ : wg_M) : f_X11_chain_26 t0 t1 σ = wg_bd (f_X8_longestRow t1 t0 σ) q_X11_chain_26__1 := rfl
def q_X11_chain__1 (x1 : Int32) (v1 : Int32) (s2 : wg_M) : Option (Int32 × wg_M) := if v1 = 0 then (some ((-1 : Int32), s2)) else (if x1 = (1 : Int32) then (f_X11_chain_26  (1 : Int32) 49 s2) else (f_X11_chain_26  (0 : Int32) 49 s2))
theorem e_X11_chain__1 (x1 : Int32) (v1 : Int32) (s2 : wg_M) : q_X11_chain__1 x1 v1 s2 = if v1 = 0 then (some ((-1 : Int32), s2)) else (if x1 = (1 : Int32) then (f_X11_chain_26  (1 : Int32) 49 s2) else (f_X11_chain_26  (0 : Int32) 49 s2)) := rfl
theorem e_X11_chain (x1 : Int32) (σ : wg_M) : f_X11_chain 281 x1 σ = wg_bd (f_X11_within x1 (0 : Int32) (1 : Int32) σ) (q_X11_chain__1 x1) := by
  unfold f_X11_chain
  simp only [sc_r0_6, sc_r281_0]
  rfl
def q_X11_parcel__4 (s7 : wg_M) : Option (Int32 × wg_M) := some ((1 : Int32), s7)
def q_X11_parcel__3 (x1 : Int32) (x2 : Int32) (x3 : Int32) (v5 : Int32) (s6 : wg_M) : Option (Int32 × wg_M) := if v5 = 0 then (some ((0 : Int32), s6)) else (wg_sa 20 s6 55 ((x2 * (10 : Int32)) + x1) x3 q_X11_parcel__4)
def q_X11_parcel__2 (x1 : Int32) (x2 : Int32) (x3 : Int32) (v3 : Int32) (s4 : wg_M) : Option (Int32 × wg_M) := if v3 = 0 then (some ((0 : Int32), s4)) else (wg_bd (f_X11_within x3 (0 : Int32) (99 : Int32) s4) (q_X11_parcel__3 x1 x2 x3))
def q_X11_parcel__1 (x1 : Int32) (x2 : Int32) (x3 : Int32) (v1 : Int32) (s2 : wg_M) : Option (Int32 × wg_M) := if v1 = 0 then (some ((0 : Int32), s2)) else (wg_bd (f_X11_within x2 (0 : Int32) (1 : Int32) s2) (q_X11_parcel__2 x1 x2 x3))
theorem e_X11_parcel__1 (x1 : Int32) (x2 : Int32) (x3 : Int32) (v1 : Int32) (s2 : wg_M) : q_X11_parcel__1 x1 x2 x3 v1 s2 = if v1 = 0 then (some ((0 : Int32), s2)) else (wg_bd (f_X11_within x2 (0 : Int32) (1 : Int32) s2) (q_X11_parcel__2 x1 x2 x3)) := rfl
theorem e_X11_parcel__2 (x1 : Int32) (x2 : Int32) (x3 : Int32) (v3 : Int32) (s4 : wg_M) : q_X11_parcel__2 x1 x2 x3 v3 s4 = if v3 = 0 then (some ((0 : Int32), s4)) else (wg_bd (f_X11_within x3 (0 : Int32) (99 : Int32) s4) (q_X11_parcel__3 x1 x2 x3)) := rfl
theorem e_X11_parcel__3 (x1 : Int32) (x2 : Int32) (x3 : Int32) (v5 : Int32) (s6 : wg_M) : q_X11_parcel__3 x1 x2 x3 v5 s6 = if v5 = 0 then (some ((0 : Int32), s6)) else (wg_sa 20 s6 55 ((x2 * (10 : Int32)) + x1) x3 q_X11_parcel__4) := rfl
theorem e_X11_parcel__4 (s7 : wg_M) : q_X11_parcel__4 s7 = some ((1 : Int32), s7) := rfl
theorem e_X11_parcel (x1 : Int32) (x2 : Int32) (x3 : Int32) (σ : wg_M) : f_X11_parcel 281 x1 x2 x3 σ = wg_bd (f_X11_within x1 (0 : Int32) (9 : Int32) σ) (q_X11_parcel__1 x1 x2 x3) := by
  unfold f_X11_parcel
  simp only [sc_n55, sc_r0_6, sc_r49_7, sc_r281_0]
  rfl
def q_X11_cut__3 (v5 : Int32) (s6 : wg_M) : Option (Int32 × wg_M) := some (v5, s6)
def q_X11_cut__2 (v3 : Int32) (s4 : wg_M) : Option (Int32 × wg_M) := some (v3, s4)
def q_X11_cut__1 (v1 : Int32) (s2 : wg_M) : Option (Int32 × wg_M) := some (v1, s2)
theorem e_X11_cut__1 (v1 : Int32) (s2 : wg_M) : q_X11_cut__1 v1 s2 = some (v1, s2) := rfl
theorem e_X11_cut__2 (v3 : Int32) (s4 : wg_M) : q_X11_cut__2 v3 s4 = some (v3, s4) := rfl
theorem e_X11_cut__3 (v5 : Int32) (s6 : wg_M) : q_X11_cut__3 v5 s6 = some (v5, s6) := rfl
theorem e_X11_cut (x1 : Int32) (σ : wg_M) : f_X11_cut 281 x1 σ = wg_sw x1 (0) [wg_bd (f_X8_cutPlace 49 σ) q_X11_cut__1, wg_bd (f_X8_otherHas 49 σ) q_X11_cut__2, wg_bd (f_X8_oneHas 49 σ) q_X11_cut__3] (some ((-1 : Int32), σ)) := by
  unfold f_X11_cut
  simp only [sc_r0_6, sc_r281_0]
  rfl
def q_X11_hard__2 (v1 : Int32) (s2 : wg_M) : Option (Int32 × wg_M) := some (v1, s2)
def q_X11_hard__1 (s3 : wg_M) : Option (Int32 × wg_M) := some ((0 : Int32), s3)
theorem e_X11_hard__1 (s3 : wg_M) : q_X11_hard__1 s3 = some ((0 : Int32), s3) := rfl
theorem e_X11_hard__2 (v1 : Int32) (s2 : wg_M) : q_X11_hard__2 v1 s2 = some (v1, s2) := rfl
theorem e_X11_hard (x1 : Int32) (x2 : Int32) (σ : wg_M) : f_X11_hard 281 x1 x2 σ = if x1 = (-1 : Int32) then (wg_st σ 49 10 (0 : Int32) q_X11_hard__1) else (wg_bd (f_X8_addHard 49 x1 x2 σ) q_X11_hard__2) := by
  unfold f_X11_hard
  simp only [sc_r0_6, sc_r281_0]
  rfl
def q_X11_hears__2 (v1 : Int32) (s2 : wg_M) : Option (Int32 × wg_M) := some (v1, s2)
def q_X11_hears__1 (v3 : Int32) (s4 : wg_M) : Option (Int32 × wg_M) := some (v3, s4)
theorem e_X11_hears__1 (v3 : Int32) (s4 : wg_M) : q_X11_hears__1 v3 s4 = some (v3, s4) := rfl
theorem e_X11_hears__2 (v1 : Int32) (s2 : wg_M) : q_X11_hears__2 v1 s2 = some (v1, s2) := rfl
theorem e_X11_hears (x1 : Int32) (σ : wg_M) : f_X11_hears 281 x1 σ = if x1 = 0 then (wg_bd (f_X8_lateness 49 (0 : Int32) (0 : Int32) σ) q_X11_hears__1) else (if x1 < (10 : Int32) then (some ((-1 : Int32), σ)) else (if (x1 - (10 : Int32)) < (σ 49 10) then (wg_bd (f_X8_heardAt 49 (x1 - (10 : Int32)) σ) q_X11_hears__2) else (some ((-1 : Int32), σ)))) := by
  unfold f_X11_hears
  simp only [sc_r0_6, sc_r281_0]
  rfl
def q_X11_game_30__1 (v1 : Int32) (s2 : wg_M) : Option (Int32 × wg_M) := some (v1, s2)
theorem e_X11_game_30__1 (v1 : Int32) (s2 : wg_M) : q_X11_game_30__1 v1 s2 = some (v1, s2) := rfl
theorem e_X11_game_30 (t0 : Int32) (t1 : Nat) (σ : wg_M) : f_X11_game_30 t0 t1 σ = wg_bd (f_X9_wellPulled t1 t0 σ) q_X11_game_30__1 := rfl
def q_X11_game__1 (x1 : Int32) (v1 : Int32) (s2 : wg_M) : Option (Int32 × wg_M) := if v1 = 0 then (some ((-1 : Int32), s2)) else (if x1 = 0 then (f_X11_game_30  (1 : Int32) 2 s2) else (f_X11_game_30  (0 : Int32) 2 s2))
theorem e_X11_game__1 (x1 : Int32) (v1 : Int32) (s2 : wg_M) : q_X11_game__1 x1 v1 s2 = if v1 = 0 then (some ((-1 : Int32), s2)) else (if x1 = 0 then (f_X11_game_30  (1 : Int32) 2 s2) else (f_X11_game_30  (0 : Int32) 2 s2)) := rfl
theorem e_X11_game (x1 : Int32) (σ : wg_M) : f_X11_game 281 x1 σ = wg_bd (f_X11_within x1 (0 : Int32) (1 : Int32) σ) (q_X11_game__1 x1) := by
  unfold f_X11_game
  simp only [sc_r0_0, sc_r1_0, sc_r281_0]
  rfl
def q_X11_undo__1 (v1 : Int32) (s2 : wg_M) : Option (Int32 × wg_M) := wg_bz v1 (some (v1, s2))
theorem e_X11_undo__1 (v1 : Int32) (s2 : wg_M) : q_X11_undo__1 v1 s2 = wg_bz v1 (some (v1, s2)) := rfl
theorem e_X11_undo (σ : wg_M) : f_X11_undo 281 σ = wg_bd (f_X5_goBack 258 1 σ) q_X11_undo__1 := by
  unfold f_X11_undo
  simp only [sc_r0_0, sc_r281_0, sc_r281_2]
  rfl
def q_X11_image__4 (s4 : wg_M) : Option (Int32 × wg_M) := some ((1 : Int32), s4)
def q_X11_image__3 (_u3 : Int32) (s3 : wg_M) : Option (Int32 × wg_M) := wg_bz (1 : Int32) (wg_st s3 281 6 (1 : Int32) q_X11_image__4)
def q_X11_image__2 (_u2 : Int32) (s2 : wg_M) : Option (Int32 × wg_M) := some ((1 : Int32), s2)
def q_X11_image__1 (_u1 : Int32) (s1 : wg_M) : Option (Int32 × wg_M) := wg_bd (f_X5_forget 258 s1) q_X11_image__2
theorem e_X11_image__1 (_u1 : Int32) (s1 : wg_M) : q_X11_image__1 _u1 s1 = wg_bd (f_X5_forget 258 s1) q_X11_image__2 := rfl
theorem e_X11_image__2 (_u2 : Int32) (s2 : wg_M) : q_X11_image__2 _u2 s2 = some ((1 : Int32), s2) := rfl
theorem e_X11_image__3 (_u3 : Int32) (s3 : wg_M) : q_X11_image__3 _u3 s3 = wg_bz (1 : Int32) (wg_st s3 281 6 (1 : Int32) q_X11_image__4) := rfl
theorem e_X11_image__4 (s4 : wg_M) : q_X11_image__4 s4 = some ((1 : Int32), s4) := rfl
theorem e_X11_image (x1 : Int32) (σ : wg_M) : f_X11_image 281 x1 σ = if x1 = 0 then (if (σ 281 6) = 0 then (some ((0 : Int32), σ)) else (wg_bd (f_X10_copyFrom 0 59 σ) q_X11_image__1)) else (wg_bd (f_X10_copyFrom 59 0 σ) q_X11_image__3) := by
  unfold f_X11_image
  simp only [sc_r281_0, sc_r281_1, sc_r281_2]
  rfl
def q_X11_look__2 (v3 : Int32) (s4 : wg_M) : Option (Int32 × wg_M) := some (v3, s4)
def q_X11_look__1 (v1 : Int32) (s2 : wg_M) : Option (Int32 × wg_M) := some (v1, s2)
theorem e_X11_look__1 (v1 : Int32) (s2 : wg_M) : q_X11_look__1 v1 s2 = some (v1, s2) := rfl
theorem e_X11_look__2 (v3 : Int32) (s4 : wg_M) : q_X11_look__2 v3 s4 = some (v3, s4) := rfl
theorem e_X11_look (x1 : Int32) (σ : wg_M) : f_X11_look 281 x1 σ = wg_sw x1 (0) [some (σ 2 8, σ), some (σ 11 5, σ), some (σ 1 6, σ), some (σ 1 7, σ), wg_bd (f_X2_deadSet 11 σ) q_X11_look__1, wg_bd (f_X0_openSet 1 σ) q_X11_look__2, some (σ 1 9, σ), some (σ 1 8, σ), some (σ 26 6, σ), some (σ 34 4, σ), some (σ 39 4, σ), some (σ 44 4, σ), some (σ 258 2, σ)] (some ((-1 : Int32), σ)) := by
  unfold f_X11_look
  simp only [sc_r0_0, sc_r0_2, sc_r0_3, sc_r0_4, sc_r0_5, sc_r1_0, sc_r1_1, sc_r281_0, sc_r281_2]
  rfl
theorem e_X12_isIn (x1 : Int32) (x2 : Int32) (x3 : Int32) (σ : wg_M) : f_X12_isIn 0 x1 x2 x3 σ = if x1 < x2 then (some ((0 : Int32), σ)) else (if x3 < x1 then (some ((0 : Int32), σ)) else (some ((1 : Int32), σ))) := rfl
theorem e_X12_held (x1 : Int32) (x2 : Int32) (x3 : Int32) (σ : wg_M) : f_X12_held 0 x1 x2 x3 σ = if x2 ≤ x1 then (if x1 ≤ x3 then (some (x1, σ)) else (some (x3, σ))) else (some (x2, σ)) := rfl
theorem e_X12_greater (x1 : Int32) (x2 : Int32) (σ : wg_M) : f_X12_greater 0 x1 x2 σ = if x1 ≤ x2 then (some (x2, σ)) else (some (x1, σ)) := rfl
theorem e_X12_lesser (x1 : Int32) (x2 : Int32) (σ : wg_M) : f_X12_lesser 0 x1 x2 σ = if x2 ≤ x1 then (some (x2, σ)) else (some (x1, σ)) := rfl
def q_X12_onesOf_4__2 (n : Nat) (σ : wg_M) (v1 : Int32) (v2 : Int32) : Option (Int32 × wg_M) := f_X12_onesOf_4  n v1 v2 σ
def q_X12_onesOf_4__1 (n : Nat) (x3 : Int32) (σ : wg_M) (v1 : Int32) : Option (Int32 × wg_M) := wg_let (x3 &&& (x3 - (1 : Int32))) (q_X12_onesOf_4__2 n σ v1)
theorem e_X12_onesOf_4__1 (n : Nat) (x3 : Int32) (σ : wg_M) (v1 : Int32) : q_X12_onesOf_4__1 n x3 σ v1 = wg_let (x3 &&& (x3 - (1 : Int32))) (q_X12_onesOf_4__2 n σ v1) := rfl
theorem e_X12_onesOf_4__2 (n : Nat) (σ : wg_M) (v1 : Int32) (v2 : Int32) : q_X12_onesOf_4__2 n σ v1 v2 = f_X12_onesOf_4  n v1 v2 σ := rfl
theorem e_X12_onesOf_4 (n : Nat) (x2 : Int32) (x3 : Int32) (σ : wg_M) : f_X12_onesOf_4 (n + 1) x2 x3 σ = if x3 = 0 then (some (x2, σ)) else (wg_let (x2 + (1 : Int32)) (q_X12_onesOf_4__1 n x3 σ)) := by
  rw [f_X12_onesOf_4]
  rfl
theorem e_X12_onesOf (x1 : Int32) (σ : wg_M) : f_X12_onesOf 0 x1 σ = f_X12_onesOf_4  wg_N (0 : Int32) x1 σ := rfl
theorem e_X12_has (x1 : Int32) (x2 : Int32) (σ : wg_M) : f_X12_has 0 x1 x2 σ = if ((x1 >>> (x2 &&& 31)) &&& (1 : Int32)) = (1 : Int32) then (some ((1 : Int32), σ)) else (some ((0 : Int32), σ)) := rfl
def q_X12_partOf__2 (σ : wg_M) (v2 : Int32) : Option (Int32 × wg_M) := some (v2, σ)
def q_X12_partOf__1 (σ : wg_M) (v1 : Int32) : Option (Int32 × wg_M) := some (-v1, σ)
theorem e_X12_partOf__1 (σ : wg_M) (v1 : Int32) : q_X12_partOf__1 σ v1 = some (-v1, σ) := rfl
theorem e_X12_partOf__2 (σ : wg_M) (v2 : Int32) : q_X12_partOf__2 σ v2 = some (v2, σ) := rfl
theorem e_X12_partOf (x1 : Int32) (x2 : Int32) (σ : wg_M) : f_X12_partOf 0 x1 x2 σ = if x1 < 0 then (wg_dv ((x2 - (1 : Int32)) - x1) x2 (q_X12_partOf__1 σ)) else (wg_dv x1 x2 (q_X12_partOf__2 σ)) := rfl
def q_X12_keepsAhead_57__4 (n : Nat) (s3 : wg_M) (v4 : Int32) : Option (Int32 × wg_M) := f_X12_keepsAhead_57  n 0 v4 s3
def q_X12_keepsAhead_57__3 (n : Nat) (x1 : Int32) (s3 : wg_M) : Option (Int32 × wg_M) := wg_let (x1 + (1 : Int32)) (q_X12_keepsAhead_57__4 n s3)
def q_X12_keepsAhead_57__2 (n : Nat) (x1 : Int32) (σ : wg_M) (v2 : Int32) : Option (Int32 × wg_M) := wg_sa 1770 σ 2 (((295 : Int32) * (σ 0 3)) + x1) v2 (q_X12_keepsAhead_57__3 n x1)
def q_X12_keepsAhead_57__1 (s1 : wg_M) : Option (Int32 × wg_M) := some (0, s1)
theorem e_X12_keepsAhead_57__1 (s1 : wg_M) : q_X12_keepsAhead_57__1 s1 = some (0, s1) := rfl
theorem e_X12_keepsAhead_57__2 (n : Nat) (x1 : Int32) (σ : wg_M) (v2 : Int32) : q_X12_keepsAhead_57__2 n x1 σ v2 = wg_sa 1770 σ 2 (((295 : Int32) * (σ 0 3)) + x1) v2 (q_X12_keepsAhead_57__3 n x1) := rfl
theorem e_X12_keepsAhead_57__3 (n : Nat) (x1 : Int32) (s3 : wg_M) : q_X12_keepsAhead_57__3 n x1 s3 = wg_let (x1 + (1 : Int32)) (q_X12_keepsAhead_57__4 n s3) := rfl
theorem e_X12_keepsAhead_57__4 (n : Nat) (s3 : wg_M) (v4 : Int32) : q_X12_keepsAhead_57__4 n s3 v4 = f_X12_keepsAhead_57  n 0 v4 s3 := rfl
theorem e_X12_keepsAhead_57 (n : Nat) (x1 : Int32) (σ : wg_M) : f_X12_keepsAhead_57 (n + 1) 0 x1 σ = if (295 : Int32) ≤ x1 then (wg_st σ 0 3 ((σ 0 3) + (1 : Int32)) q_X12_keepsAhead_57__1) else (wg_ga 295 (σ 1) x1 (q_X12_keepsAhead_57__2 n x1 σ)) := by
  rw [f_X12_keepsAhead_57]
  simp only [sm_n1, sm_n2, sm_r0_1, sm_r0_2]
  rfl
theorem e_X12_keepsAhead_55 (σ : wg_M) : f_X12_keepsAhead_55 0 σ = f_X12_keepsAhead_57  wg_N 0 (0 : Int32) σ := rfl
def q_X12_keepsAhead_21__3 (n : Nat) (s2 : wg_M) (v3 : Int32) : Option (Int32 × wg_M) := f_X12_keepsAhead_21  n 0 v3 s2
def q_X12_keepsAhead_21__2 (n : Nat) (x1 : Int32) (s2 : wg_M) : Option (Int32 × wg_M) := wg_let (x1 + (1 : Int32)) (q_X12_keepsAhead_21__3 n s2)
def q_X12_keepsAhead_21__1 (n : Nat) (x1 : Int32) (σ : wg_M) (v1 : Int32) : Option (Int32 × wg_M) := wg_sa 1770 σ 2 x1 v1 (q_X12_keepsAhead_21__2 n x1)
theorem e_X12_keepsAhead_21__1 (n : Nat) (x1 : Int32) (σ : wg_M) (v1 : Int32) : q_X12_keepsAhead_21__1 n x1 σ v1 = wg_sa 1770 σ 2 x1 v1 (q_X12_keepsAhead_21__2 n x1) := rfl
theorem e_X12_keepsAhead_21__2 (n : Nat) (x1 : Int32) (s2 : wg_M) : q_X12_keepsAhead_21__2 n x1 s2 = wg_let (x1 + (1 : Int32)) (q_X12_keepsAhead_21__3 n s2) := rfl
theorem e_X12_keepsAhead_21__3 (n : Nat) (s2 : wg_M) (v3 : Int32) : q_X12_keepsAhead_21__3 n s2 v3 = f_X12_keepsAhead_21  n 0 v3 s2 := rfl
theorem e_X12_keepsAhead_21 (n : Nat) (x1 : Int32) (σ : wg_M) : f_X12_keepsAhead_21 (n + 1) 0 x1 σ = if ((295 : Int32) * (σ 0 3)) ≤ x1 then (f_X12_keepsAhead_55  0 σ) else (wg_ga 1770 (σ 2) (x1 + (295 : Int32)) (q_X12_keepsAhead_21__1 n x1 σ)) := by
  rw [f_X12_keepsAhead_21]
  simp only [sm_n2, sm_r0_2]
  rfl
def q_X12_keepsAhead__1 (s1 : wg_M) : Option (Int32 × wg_M) := f_X12_keepsAhead_21  wg_N 0 (0 : Int32) s1
theorem e_X12_keepsAhead__1 (s1 : wg_M) : q_X12_keepsAhead__1 s1 = f_X12_keepsAhead_21  wg_N 0 (0 : Int32) s1 := rfl
theorem e_X12_keepsAhead (σ : wg_M) : f_X12_keepsAhead 0 σ = if (σ 0 3) = (6 : Int32) then (wg_st σ 0 3 ((σ 0 3) - (1 : Int32)) q_X12_keepsAhead__1) else (f_X12_keepsAhead_55  0 σ) := rfl
def q_X12_undo_26__3 (n : Nat) (s2 : wg_M) (v3 : Int32) : Option (Int32 × wg_M) := f_X12_undo_26  n 0 v3 s2
def q_X12_undo_26__2 (n : Nat) (x1 : Int32) (s2 : wg_M) : Option (Int32 × wg_M) := wg_let (x1 + (1 : Int32)) (q_X12_undo_26__3 n s2)
def q_X12_undo_26__1 (n : Nat) (x1 : Int32) (σ : wg_M) (v1 : Int32) : Option (Int32 × wg_M) := wg_sa 295 σ 1 x1 v1 (q_X12_undo_26__2 n x1)
theorem e_X12_undo_26__1 (n : Nat) (x1 : Int32) (σ : wg_M) (v1 : Int32) : q_X12_undo_26__1 n x1 σ v1 = wg_sa 295 σ 1 x1 v1 (q_X12_undo_26__2 n x1) := rfl
theorem e_X12_undo_26__2 (n : Nat) (x1 : Int32) (s2 : wg_M) : q_X12_undo_26__2 n x1 s2 = wg_let (x1 + (1 : Int32)) (q_X12_undo_26__3 n s2) := rfl
theorem e_X12_undo_26__3 (n : Nat) (s2 : wg_M) (v3 : Int32) : q_X12_undo_26__3 n s2 v3 = f_X12_undo_26  n 0 v3 s2 := rfl
theorem e_X12_undo_26 (n : Nat) (x1 : Int32) (σ : wg_M) : f_X12_undo_26 (n + 1) 0 x1 σ = if (295 : Int32) ≤ x1 then (some ((1 : Int32), σ)) else (wg_ga 1770 (σ 2) (((295 : Int32) * (σ 0 3)) + x1) (q_X12_undo_26__1 n x1 σ)) := by
  rw [f_X12_undo_26]
  simp only [sm_n1, sm_n2, sm_r0_1, sm_r0_2]
  rfl
def q_X12_undo__2 (s2 : wg_M) : Option (Int32 × wg_M) := f_X12_undo_26  wg_N 0 (0 : Int32) s2
def q_X12_undo__1 (s1 : wg_M) : Option (Int32 × wg_M) := if (s1 0 3) = 0 then (some ((0 : Int32), s1)) else (wg_st s1 0 3 ((s1 0 3) - (1 : Int32)) q_X12_undo__2)
theorem e_X12_undo__1 (s1 : wg_M) : q_X12_undo__1 s1 = if (s1 0 3) = 0 then (some ((0 : Int32), s1)) else (wg_st s1 0 3 ((s1 0 3) - (1 : Int32)) q_X12_undo__2) := rfl
theorem e_X12_undo__2 (s2 : wg_M) : q_X12_undo__2 s2 = f_X12_undo_26  wg_N 0 (0 : Int32) s2 := rfl
theorem e_X12_undo (σ : wg_M) : f_X12_undo 0 σ = wg_st σ 0 0 (0 : Int32) q_X12_undo__1 := rfl
def q_X12_thinks_2__4 (n : Nat) (s3 : wg_M) (v4 : Int32) : Option (Int32 × wg_M) := f_X12_thinks_2  n 0 v4 s3
def q_X12_thinks_2__3 (n : Nat) (x1 : Int32) (s3 : wg_M) : Option (Int32 × wg_M) := wg_let (x1 + (1 : Int32)) (q_X12_thinks_2__4 n s3)
def q_X12_thinks_2__2 (n : Nat) (x1 : Int32) (σ : wg_M) (v2 : Int32) : Option (Int32 × wg_M) := wg_sa 295 σ 3 x1 v2 (q_X12_thinks_2__3 n x1)
def q_X12_thinks_2__1 (s1 : wg_M) : Option (Int32 × wg_M) := some (0, s1)
theorem e_X12_thinks_2__1 (s1 : wg_M) : q_X12_thinks_2__1 s1 = some (0, s1) := rfl
theorem e_X12_thinks_2__2 (n : Nat) (x1 : Int32) (σ : wg_M) (v2 : Int32) : q_X12_thinks_2__2 n x1 σ v2 = wg_sa 295 σ 3 x1 v2 (q_X12_thinks_2__3 n x1) := rfl
theorem e_X12_thinks_2__3 (n : Nat) (x1 : Int32) (s3 : wg_M) : q_X12_thinks_2__3 n x1 s3 = wg_let (x1 + (1 : Int32)) (q_X12_thinks_2__4 n s3) := rfl
theorem e_X12_thinks_2__4 (n : Nat) (s3 : wg_M) (v4 : Int32) : q_X12_thinks_2__4 n s3 v4 = f_X12_thinks_2  n 0 v4 s3 := rfl
theorem e_X12_thinks_2 (n : Nat) (x1 : Int32) (σ : wg_M) : f_X12_thinks_2 (n + 1) 0 x1 σ = if (295 : Int32) ≤ x1 then (wg_bz (1 : Int32) (wg_st σ 0 5 (1 : Int32) q_X12_thinks_2__1)) else (wg_ga 295 (σ 1) x1 (q_X12_thinks_2__2 n x1 σ)) := by
  rw [f_X12_thinks_2]
  simp only [sm_n1, sm_n3, sm_r0_1, sm_r0_4]
  rfl
theorem e_X12_thinks (σ : wg_M) : f_X12_thinks 0 σ = f_X12_thinks_2  wg_N 0 (0 : Int32) σ := rfl
def q_X12_endsThought_2__4 (n : Nat) (s3 : wg_M) (v4 : Int32) : Option (Int32 × wg_M) := f_X12_endsThought_2  n 0 v4 s3
def q_X12_endsThought_2__3 (n : Nat) (x1 : Int32) (s3 : wg_M) : Option (Int32 × wg_M) := wg_let (x1 + (1 : Int32)) (q_X12_endsThought_2__4 n s3)
def q_X12_endsThought_2__2 (n : Nat) (x1 : Int32) (σ : wg_M) (v2 : Int32) : Option (Int32 × wg_M) := wg_sa 295 σ 1 x1 v2 (q_X12_endsThought_2__3 n x1)
def q_X12_endsThought_2__1 (s1 : wg_M) : Option (Int32 × wg_M) := some (0, s1)
theorem e_X12_endsThought_2__1 (s1 : wg_M) : q_X12_endsThought_2__1 s1 = some (0, s1) := rfl
theorem e_X12_endsThought_2__2 (n : Nat) (x1 : Int32) (σ : wg_M) (v2 : Int32) : q_X12_endsThought_2__2 n x1 σ v2 = wg_sa 295 σ 1 x1 v2 (q_X12_endsThought_2__3 n x1) := rfl
theorem e_X12_endsThought_2__3 (n : Nat) (x1 : Int32) (s3 : wg_M) : q_X12_endsThought_2__3 n x1 s3 = wg_let (x1 + (1 : Int32)) (q_X12_endsThought_2__4 n s3) := rfl
theorem e_X12_endsThought_2__4 (n : Nat) (s3 : wg_M) (v4 : Int32) : q_X12_endsThought_2__4 n s3 v4 = f_X12_endsThought_2  n 0 v4 s3 := rfl
theorem e_X12_endsThought_2 (n : Nat) (x1 : Int32) (σ : wg_M) : f_X12_endsThought_2 (n + 1) 0 x1 σ = if (295 : Int32) ≤ x1 then (wg_bz (0 : Int32) (wg_st σ 0 5 (0 : Int32) q_X12_endsThought_2__1)) else (wg_ga 295 (σ 3) x1 (q_X12_endsThought_2__2 n x1 σ)) := by
  rw [f_X12_endsThought_2]
  simp only [sm_n1, sm_n3, sm_r0_1, sm_r0_4]
  rfl
theorem e_X12_endsThought (σ : wg_M) : f_X12_endsThought 0 σ = f_X12_endsThought_2  wg_N 0 (0 : Int32) σ := rfl
def q_X12_state__4 (v2 : Int32) (s4 : wg_M) : Option (Int32 × wg_M) := some (v2, s4)
def q_X12_state__3 (v2 : Int32) (s3 : wg_M) : Option (Int32 × wg_M) := wg_st s3 0 3 (0 : Int32) (q_X12_state__4 v2)
def q_X12_state__2 (x1 : Int32) (s1 : wg_M) (v2 : Int32) : Option (Int32 × wg_M) := wg_sa 295 s1 1 (1 : Int32) x1 (q_X12_state__3 v2)
def q_X12_state__1 (x1 : Int32) (s1 : wg_M) : Option (Int32 × wg_M) := wg_ga 295 (s1 1) (1 : Int32) (q_X12_state__2 x1 s1)
theorem e_X12_state__1 (x1 : Int32) (s1 : wg_M) : q_X12_state__1 x1 s1 = wg_ga 295 (s1 1) (1 : Int32) (q_X12_state__2 x1 s1) := rfl
theorem e_X12_state__2 (x1 : Int32) (s1 : wg_M) (v2 : Int32) : q_X12_state__2 x1 s1 v2 = wg_sa 295 s1 1 (1 : Int32) x1 (q_X12_state__3 v2) := rfl
theorem e_X12_state__3 (v2 : Int32) (s3 : wg_M) : q_X12_state__3 v2 s3 = wg_st s3 0 3 (0 : Int32) (q_X12_state__4 v2) := rfl
theorem e_X12_state__4 (v2 : Int32) (s4 : wg_M) : q_X12_state__4 v2 s4 = some (v2, s4) := rfl
theorem e_X12_state (x1 : Int32) (σ : wg_M) : f_X12_state 0 x1 σ = wg_st σ 0 0 (0 : Int32) (q_X12_state__1 x1) := by
  unfold f_X12_state
  simp only [sm_n1, sm_r0_1]
  rfl
def q_X12_draw__4 (s2 : wg_M) (v4 : Int32) : Option (Int32 × wg_M) := some (v4, s2)
def q_X12_draw__3 (x1 : Int32) (s2 : wg_M) (v3 : Int32) : Option (Int32 × wg_M) := wg_rm (wg_ush v3 (8 : Int32)) x1 (q_X12_draw__4 s2)
def q_X12_draw__2 (x1 : Int32) (s2 : wg_M) : Option (Int32 × wg_M) := wg_ga 295 (s2 1) (1 : Int32) (q_X12_draw__3 x1 s2)
def q_X12_draw__1 (x1 : Int32) (σ : wg_M) (v1 : Int32) : Option (Int32 × wg_M) := wg_sa 295 σ 1 (1 : Int32) (((1664525 : Int32) * v1) + (1013904223 : Int32)) (q_X12_draw__2 x1)
theorem e_X12_draw__1 (x1 : Int32) (σ : wg_M) (v1 : Int32) : q_X12_draw__1 x1 σ v1 = wg_sa 295 σ 1 (1 : Int32) (((1664525 : Int32) * v1) + (1013904223 : Int32)) (q_X12_draw__2 x1) := rfl
theorem e_X12_draw__2 (x1 : Int32) (s2 : wg_M) : q_X12_draw__2 x1 s2 = wg_ga 295 (s2 1) (1 : Int32) (q_X12_draw__3 x1 s2) := rfl
theorem e_X12_draw__3 (x1 : Int32) (s2 : wg_M) (v3 : Int32) : q_X12_draw__3 x1 s2 v3 = wg_rm (wg_ush v3 (8 : Int32)) x1 (q_X12_draw__4 s2) := rfl
theorem e_X12_draw__4 (s2 : wg_M) (v4 : Int32) : q_X12_draw__4 s2 v4 = some (v4, s2) := rfl
theorem e_X12_draw (x1 : Int32) (σ : wg_M) : f_X12_draw 0 x1 σ = wg_ga 295 (σ 1) (1 : Int32) (q_X12_draw__1 x1 σ) := by
  unfold f_X12_draw
  simp only [sm_n1, sm_r0_1]
  rfl
theorem e_X12_isWig (x1 : Int32) (σ : wg_M) : f_X12_isWig 0 x1 σ = if x1 < 0 then (some ((0 : Int32), σ)) else (if (σ 0 6) ≤ x1 then (some ((0 : Int32), σ)) else (some ((1 : Int32), σ))) := rfl
theorem e_X12_isJudge (x1 : Int32) (σ : wg_M) : f_X12_isJudge 0 x1 σ = if x1 < 0 then (some ((0 : Int32), σ)) else (if (σ 0 7) ≤ x1 then (some ((0 : Int32), σ)) else (some ((1 : Int32), σ))) := rfl
theorem e_X12_isTrial (x1 : Int32) (σ : wg_M) : f_X12_isTrial 0 x1 σ = if x1 < 0 then (some ((0 : Int32), σ)) else (if (σ 0 8) ≤ x1 then (some ((0 : Int32), σ)) else (some ((1 : Int32), σ))) := rfl
def q_X12_wigOf__1 (σ : wg_M) (v1 : Int32) : Option (Int32 × wg_M) := some (v1 - (1 : Int32), σ)
theorem e_X12_wigOf__1 (σ : wg_M) (v1 : Int32) : q_X12_wigOf__1 σ v1 = some (v1 - (1 : Int32), σ) := rfl
theorem e_X12_wigOf (x1 : Int32) (σ : wg_M) : f_X12_wigOf 0 x1 σ = wg_ga 295 (σ 1) ((13 : Int32) + x1) (q_X12_wigOf__1 σ) := by
  unfold f_X12_wigOf
  simp only [sm_n1, sm_r0_1]
  rfl
def q_X12_isAlive__1 (σ : wg_M) (v1 : Int32) : Option (Int32 × wg_M) := if v1 = 0 then (some ((1 : Int32), σ)) else (some ((0 : Int32), σ))
theorem e_X12_isAlive__1 (σ : wg_M) (v1 : Int32) : q_X12_isAlive__1 σ v1 = if v1 = 0 then (some ((1 : Int32), σ)) else (some ((0 : Int32), σ)) := rfl
theorem e_X12_isAlive (x1 : Int32) (σ : wg_M) : f_X12_isAlive 0 x1 σ = wg_ga 295 (σ 1) ((23 : Int32) + x1) (q_X12_isAlive__1 σ) := by
  unfold f_X12_isAlive
  simp only [sm_n1, sm_r0_1]
  rfl
def q_X12_wearerOf_2__2 (n : Nat) (x1 : Int32) (s2 : wg_M) (v3 : Int32) : Option (Int32 × wg_M) := f_X12_wearerOf_2  n 0 x1 v3 s2
def q_X12_wearerOf_2__1 (n : Nat) (x1 : Int32) (x2 : Int32) (v1 : Int32) (s2 : wg_M) : Option (Int32 × wg_M) := if v1 = x1 then (some (x2, s2)) else (wg_let (x2 + (1 : Int32)) (q_X12_wearerOf_2__2 n x1 s2))
theorem e_X12_wearerOf_2__1 (n : Nat) (x1 : Int32) (x2 : Int32) (v1 : Int32) (s2 : wg_M) : q_X12_wearerOf_2__1 n x1 x2 v1 s2 = if v1 = x1 then (some (x2, s2)) else (wg_let (x2 + (1 : Int32)) (q_X12_wearerOf_2__2 n x1 s2)) := rfl
theorem e_X12_wearerOf_2__2 (n : Nat) (x1 : Int32) (s2 : wg_M) (v3 : Int32) : q_X12_wearerOf_2__2 n x1 s2 v3 = f_X12_wearerOf_2  n 0 x1 v3 s2 := rfl
theorem e_X12_wearerOf_2 (n : Nat) (x1 : Int32) (x2 : Int32) (σ : wg_M) : f_X12_wearerOf_2 (n + 1) 0 x1 x2 σ = if (σ 0 7) ≤ x2 then (some ((-1 : Int32), σ)) else (wg_bd (f_X12_wigOf 0 x2 σ) (q_X12_wearerOf_2__1 n x1 x2)) := by
  rw [f_X12_wearerOf_2]
  rfl

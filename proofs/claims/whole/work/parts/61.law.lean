/-! THE LAW's code is run -/
set_option maxHeartbeats 1000000 in
theorem wx_ofN (n : Nat) : Int32.ofNat n = nI n := rfl
def wo_2 (k : Nat) (x y : Int32) : Int32 := if k = 2 then x + y else if k = 3 then x - y else if k = 4 then x * y else if k = 6 then (if y ≤ x then nI 0 else nI 1) else if k = 7 then (if x = y then nI 1 else nI 0) else if k = 8 then (if x ≤ y then nI 0 else nI 1) else if k = 10 then x &&& y else x ||| y
def wo_e (F : Nat → Int32) : List (Nat × Int32) → List Int32 → List Int32
  | [], st => st
  | (0, v) :: cs, st => wo_e F cs (v :: st)
  | (1, v) :: cs, st => wo_e F cs (F v.toNatClampNeg :: st)
  | (5, v) :: cs, x :: st => wo_e F cs (x / v :: st)
  | (9, _) :: cs, x :: st => wo_e F cs ((nI 1 - x) :: st)
  | (k, _) :: cs, y :: x :: st => wo_e F cs (wo_2 k x y :: st)
  | _ :: _, st => st
def wo_S (s : Nat → Int32) : List Int32 → Prop
  | [] => True
  | x :: st => s st.length = x ∧ wo_S s st
def wo_V : List Bool → List Int32 → Prop
  | [], [] => True
  | b :: ts, x :: st => (b = true → x = nI 0 ∨ x = nI 1) ∧ wo_V ts st
  | _, _ => False
set_option maxHeartbeats 1000000 in
theorem wo_S_upd {s : Nat → Int32} {k : Nat} {v : Int32} : ∀ {st : List Int32}, st.length ≤ k → wo_S s st → wo_S (upd s k v) st
  | [], _, _ => trivial
  | x :: st, hl, ⟨h1, h2⟩ => by
    simp only [List.length_cons] at hl
    exact ⟨by rw [pk_un (by omega)]; exact h1, wo_S_upd (by omega) h2⟩
set_option maxHeartbeats 1000000 in
theorem wo_V_len : ∀ {ts : List Bool} {st : List Int32}, wo_V ts st → ts.length = st.length
  | [], [], _ => rfl
  | _ :: _, _ :: _, ⟨_, h⟩ => by simp only [List.length_cons, wo_V_len h]
set_option maxHeartbeats 1000000 in
theorem wo_kinds {k : Nat} (h : k ≤ 11) : k = 0 ∨ k = 1 ∨ k = 5 ∨ k = 9 ∨ k = 2 ∨ k = 3 ∨ k = 4 ∨ k = 6 ∨ k = 7 ∨ k = 8 ∨ k = 10 ∨ k = 11 := by omega
set_option maxHeartbeats 1000000 in
theorem wo_i42 : (nI 42).toInt = 42 := by decide
set_option maxHeartbeats 1000000 in
theorem wo_i43 : (nI 43).toInt = 43 := by decide
set_option maxHeartbeats 1000000 in
theorem wo_i45 : (nI 45).toInt = 45 := by decide
set_option maxHeartbeats 1000000 in
theorem wo_i60 : (nI 60).toInt = 60 := by decide
set_option maxHeartbeats 1000000 in
theorem wo_i61 : (nI 61).toInt = 61 := by decide
set_option maxHeartbeats 1000000 in
theorem wo_i62 : (nI 62).toInt = 62 := by decide
set_option maxHeartbeats 1000000 in
theorem wo_i270 : (nI 270).toInt = 270 := by decide
set_option maxHeartbeats 1000000 in
theorem wo_i271 : (nI 271).toInt = 271 := by decide
set_option maxHeartbeats 1000000 in
theorem wo_c2 {n E p len : Nat} {σ : wg_M} {x y : Int32} (hp : p < E) (hE : E ≤ 400) (hl : len < 30) (hs : σ 27 p = nI 43) (hx : σ 33 len = x) (hy : σ 33 (len + 1) = y) : f_X3_run_5 (n + 1) 26 (nI E) (nI (len + 2)) (nI p) σ = f_X3_run_5 n 26 (nI E) (nI (len + 1)) (nI (p + 1)) (wg_u σ 33 len (wo_2 2 x y)) := by
  have e1 : nI (len + 2) + -nI 1 = nI (len + 1) := sb_m1 (by omega)
  have e2 : nI (len + 1) - nI 1 = nI len := nI_pred len
  simp -implicitDefEqProofs (disch := omega) only [e_X3_run_5, e_X3_run_5__1, e_X3_run_5__2, e_X3_run_5__3, e_X3_run_5__4, e_X3_run_5__5, e_X3_run_5__6, e_X3_run_5__7, e_X3_run_5__8, e_X3_run_5__9, e_X3_run_5__10, e_X3_run_5__11, e_X3_run_5__12, e_X3_run_5__13, e_X3_run_5__14, e_X3_run_5__15, e_X3_run_191, e_X3_run_191__1, e_X3_joined, wg_lz, hs, hx, hy, e1, e2, wo_i42, wo_i43, wo_i45, wo_i60, wo_i61, wo_i62, wo_i270, wo_i271, Int.reduceEq, wo_2, Nat.reduceEqDiff, wx_bd, wx_let, wx_st, wx_lit, wx_ga, wx_sa, pk_mul, nI_add, wx_le, wx_lt, wx_eq, wx_en, wx_ne', wx_nn, wx_ltn, wx_len, wx_nlt, wx_nle, wx_bz0, wx_bz1, if_pos, if_neg, wx_ite, Nat.reduceEqDiff, eq_self, if_true, if_false, not_true_eq_false, not_false_eq_true]
set_option maxHeartbeats 1000000 in
theorem wo_m2 {n E p len : Nat} {τ : wg_M} {x y : Int32} (hp : p < E) (hE : E ≤ 400) (hl : len < 30) (hs : τ 16 p = nI 2) (hx : τ 23 len = x) (hy : τ 23 (len + 1) = y) : f_X12_runs_12 (n + 1) 0 (nI 0) (nI E) (nI (len + 2)) (nI p) τ = f_X12_runs_12 n 0 (nI 0) (nI E) (nI (len + 1)) (nI (p + 1)) (wg_u τ 23 len (wo_2 2 x y)) := by
  have e1 : nI (len + 2) - nI 1 = nI (len + 1) := nI_pred (len + 1)
  have e2 : nI (len + 1) - nI 1 = nI len := nI_pred len
  simp -implicitDefEqProofs (disch := omega) only [e_X12_runs_12, e_X12_runs_12__1, e_X12_runs_12__2, e_X12_runs_12__3, e_X12_runs_12__4, e_X12_runs_12__5, e_X12_runs_12__6, e_X12_runs_12__7, e_X12_runs_12__8, e_X12_runs_12__9, e_X12_runs_12__10, e_X12_runs_12__11, e_X12_runs_12__12, e_X12_runs_170, e_X12_runs_170__1, e_X12_twoOf, e_X12_twoOf__1, hs, hx, hy, e1, e2, wo_2, Nat.reduceEqDiff, Nat.zero_add, Nat.mul_zero, Nat.reduceMul, wx_bd, wx_let, wx_st, wx_lit, wx_ga, wx_sa, pk_mul, nI_add, wx_le, wx_lt, wx_eq, wx_en, wx_ne', wx_nn, wx_ltn, wx_len, wx_nlt, wx_nle, wx_bz0, wx_bz1, if_pos, if_neg, wx_ite, Nat.reduceEqDiff, eq_self, if_true, if_false, not_true_eq_false, not_false_eq_true]
set_option maxHeartbeats 1000000 in
theorem wo_c3 {n E p len : Nat} {σ : wg_M} {x y : Int32} (hp : p < E) (hE : E ≤ 400) (hl : len < 30) (hs : σ 27 p = nI 45) (hx : σ 33 len = x) (hy : σ 33 (len + 1) = y) : f_X3_run_5 (n + 1) 26 (nI E) (nI (len + 2)) (nI p) σ = f_X3_run_5 n 26 (nI E) (nI (len + 1)) (nI (p + 1)) (wg_u σ 33 len (wo_2 3 x y)) := by
  have e1 : nI (len + 2) + -nI 1 = nI (len + 1) := sb_m1 (by omega)
  have e2 : nI (len + 1) - nI 1 = nI len := nI_pred len
  simp -implicitDefEqProofs (disch := omega) only [e_X3_run_5, e_X3_run_5__1, e_X3_run_5__2, e_X3_run_5__3, e_X3_run_5__4, e_X3_run_5__5, e_X3_run_5__6, e_X3_run_5__7, e_X3_run_5__8, e_X3_run_5__9, e_X3_run_5__10, e_X3_run_5__11, e_X3_run_5__12, e_X3_run_5__13, e_X3_run_5__14, e_X3_run_5__15, e_X3_run_191, e_X3_run_191__1, e_X3_joined, wg_lz, hs, hx, hy, e1, e2, wo_i42, wo_i43, wo_i45, wo_i60, wo_i61, wo_i62, wo_i270, wo_i271, Int.reduceEq, wo_2, Nat.reduceEqDiff, wx_bd, wx_let, wx_st, wx_lit, wx_ga, wx_sa, pk_mul, nI_add, wx_le, wx_lt, wx_eq, wx_en, wx_ne', wx_nn, wx_ltn, wx_len, wx_nlt, wx_nle, wx_bz0, wx_bz1, if_pos, if_neg, wx_ite, Nat.reduceEqDiff, eq_self, if_true, if_false, not_true_eq_false, not_false_eq_true]
set_option maxHeartbeats 1000000 in
theorem wo_m3 {n E p len : Nat} {τ : wg_M} {x y : Int32} (hp : p < E) (hE : E ≤ 400) (hl : len < 30) (hs : τ 16 p = nI 3) (hx : τ 23 len = x) (hy : τ 23 (len + 1) = y) : f_X12_runs_12 (n + 1) 0 (nI 0) (nI E) (nI (len + 2)) (nI p) τ = f_X12_runs_12 n 0 (nI 0) (nI E) (nI (len + 1)) (nI (p + 1)) (wg_u τ 23 len (wo_2 3 x y)) := by
  have e1 : nI (len + 2) - nI 1 = nI (len + 1) := nI_pred (len + 1)
  have e2 : nI (len + 1) - nI 1 = nI len := nI_pred len
  simp -implicitDefEqProofs (disch := omega) only [e_X12_runs_12, e_X12_runs_12__1, e_X12_runs_12__2, e_X12_runs_12__3, e_X12_runs_12__4, e_X12_runs_12__5, e_X12_runs_12__6, e_X12_runs_12__7, e_X12_runs_12__8, e_X12_runs_12__9, e_X12_runs_12__10, e_X12_runs_12__11, e_X12_runs_12__12, e_X12_runs_170, e_X12_runs_170__1, e_X12_twoOf, e_X12_twoOf__1, hs, hx, hy, e1, e2, wo_2, Nat.reduceEqDiff, Nat.zero_add, Nat.mul_zero, Nat.reduceMul, wx_bd, wx_let, wx_st, wx_lit, wx_ga, wx_sa, pk_mul, nI_add, wx_le, wx_lt, wx_eq, wx_en, wx_ne', wx_nn, wx_ltn, wx_len, wx_nlt, wx_nle, wx_bz0, wx_bz1, if_pos, if_neg, wx_ite, Nat.reduceEqDiff, eq_self, if_true, if_false, not_true_eq_false, not_false_eq_true]
set_option maxHeartbeats 1000000 in
theorem wo_c4 {n E p len : Nat} {σ : wg_M} {x y : Int32} (hp : p < E) (hE : E ≤ 400) (hl : len < 30) (hs : σ 27 p = nI 42) (hx : σ 33 len = x) (hy : σ 33 (len + 1) = y) : f_X3_run_5 (n + 1) 26 (nI E) (nI (len + 2)) (nI p) σ = f_X3_run_5 n 26 (nI E) (nI (len + 1)) (nI (p + 1)) (wg_u σ 33 len (wo_2 4 x y)) := by
  have e1 : nI (len + 2) + -nI 1 = nI (len + 1) := sb_m1 (by omega)
  have e2 : nI (len + 1) - nI 1 = nI len := nI_pred len
  simp -implicitDefEqProofs (disch := omega) only [e_X3_run_5, e_X3_run_5__1, e_X3_run_5__2, e_X3_run_5__3, e_X3_run_5__4, e_X3_run_5__5, e_X3_run_5__6, e_X3_run_5__7, e_X3_run_5__8, e_X3_run_5__9, e_X3_run_5__10, e_X3_run_5__11, e_X3_run_5__12, e_X3_run_5__13, e_X3_run_5__14, e_X3_run_5__15, e_X3_run_191, e_X3_run_191__1, e_X3_joined, wg_lz, hs, hx, hy, e1, e2, wo_i42, wo_i43, wo_i45, wo_i60, wo_i61, wo_i62, wo_i270, wo_i271, Int.reduceEq, wo_2, Nat.reduceEqDiff, wx_bd, wx_let, wx_st, wx_lit, wx_ga, wx_sa, pk_mul, nI_add, wx_le, wx_lt, wx_eq, wx_en, wx_ne', wx_nn, wx_ltn, wx_len, wx_nlt, wx_nle, wx_bz0, wx_bz1, if_pos, if_neg, wx_ite, Nat.reduceEqDiff, eq_self, if_true, if_false, not_true_eq_false, not_false_eq_true]
set_option maxHeartbeats 1000000 in
theorem wo_m4 {n E p len : Nat} {τ : wg_M} {x y : Int32} (hp : p < E) (hE : E ≤ 400) (hl : len < 30) (hs : τ 16 p = nI 4) (hx : τ 23 len = x) (hy : τ 23 (len + 1) = y) : f_X12_runs_12 (n + 1) 0 (nI 0) (nI E) (nI (len + 2)) (nI p) τ = f_X12_runs_12 n 0 (nI 0) (nI E) (nI (len + 1)) (nI (p + 1)) (wg_u τ 23 len (wo_2 4 x y)) := by
  have e1 : nI (len + 2) - nI 1 = nI (len + 1) := nI_pred (len + 1)
  have e2 : nI (len + 1) - nI 1 = nI len := nI_pred len
  simp -implicitDefEqProofs (disch := omega) only [e_X12_runs_12, e_X12_runs_12__1, e_X12_runs_12__2, e_X12_runs_12__3, e_X12_runs_12__4, e_X12_runs_12__5, e_X12_runs_12__6, e_X12_runs_12__7, e_X12_runs_12__8, e_X12_runs_12__9, e_X12_runs_12__10, e_X12_runs_12__11, e_X12_runs_12__12, e_X12_runs_170, e_X12_runs_170__1, e_X12_twoOf, e_X12_twoOf__1, hs, hx, hy, e1, e2, wo_2, Nat.reduceEqDiff, Nat.zero_add, Nat.mul_zero, Nat.reduceMul, wx_bd, wx_let, wx_st, wx_lit, wx_ga, wx_sa, pk_mul, nI_add, wx_le, wx_lt, wx_eq, wx_en, wx_ne', wx_nn, wx_ltn, wx_len, wx_nlt, wx_nle, wx_bz0, wx_bz1, if_pos, if_neg, wx_ite, Nat.reduceEqDiff, eq_self, if_true, if_false, not_true_eq_false, not_false_eq_true]
set_option maxHeartbeats 1000000 in
theorem wo_c6 {n E p len : Nat} {σ : wg_M} {x y : Int32} (hp : p < E) (hE : E ≤ 400) (hl : len < 30) (hs : σ 27 p = nI 60) (hx : σ 33 len = x) (hy : σ 33 (len + 1) = y) : f_X3_run_5 (n + 1) 26 (nI E) (nI (len + 2)) (nI p) σ = f_X3_run_5 n 26 (nI E) (nI (len + 1)) (nI (p + 1)) (wg_u σ 33 len (wo_2 6 x y)) := by
  have e1 : nI (len + 2) + -nI 1 = nI (len + 1) := sb_m1 (by omega)
  have e2 : nI (len + 1) - nI 1 = nI len := nI_pred len
  by_cases c : y ≤ x
  · simp -implicitDefEqProofs (disch := omega) only [e_X3_run_5, e_X3_run_5__1, e_X3_run_5__2, e_X3_run_5__3, e_X3_run_5__4, e_X3_run_5__5, e_X3_run_5__6, e_X3_run_5__7, e_X3_run_5__8, e_X3_run_5__9, e_X3_run_5__10, e_X3_run_5__11, e_X3_run_5__12, e_X3_run_5__13, e_X3_run_5__14, e_X3_run_5__15, e_X3_run_191, e_X3_run_191__1, e_X3_joined, wg_lz, hs, hx, hy, e1, e2, wo_i42, wo_i43, wo_i45, wo_i60, wo_i61, wo_i62, wo_i270, wo_i271, Int.reduceEq, wo_2, Nat.reduceEqDiff, c, wx_bd, wx_let, wx_st, wx_lit, wx_ga, wx_sa, pk_mul, nI_add, wx_le, wx_lt, wx_eq, wx_en, wx_ne', wx_nn, wx_ltn, wx_len, wx_nlt, wx_nle, wx_bz0, wx_bz1, if_pos, if_neg, wx_ite, Nat.reduceEqDiff, eq_self, if_true, if_false, not_true_eq_false, not_false_eq_true]
  · simp -implicitDefEqProofs (disch := omega) only [e_X3_run_5, e_X3_run_5__1, e_X3_run_5__2, e_X3_run_5__3, e_X3_run_5__4, e_X3_run_5__5, e_X3_run_5__6, e_X3_run_5__7, e_X3_run_5__8, e_X3_run_5__9, e_X3_run_5__10, e_X3_run_5__11, e_X3_run_5__12, e_X3_run_5__13, e_X3_run_5__14, e_X3_run_5__15, e_X3_run_191, e_X3_run_191__1, e_X3_joined, wg_lz, hs, hx, hy, e1, e2, wo_i42, wo_i43, wo_i45, wo_i60, wo_i61, wo_i62, wo_i270, wo_i271, Int.reduceEq, wo_2, Nat.reduceEqDiff, c, wx_bd, wx_let, wx_st, wx_lit, wx_ga, wx_sa, pk_mul, nI_add, wx_le, wx_lt, wx_eq, wx_en, wx_ne', wx_nn, wx_ltn, wx_len, wx_nlt, wx_nle, wx_bz0, wx_bz1, if_pos, if_neg, wx_ite, Nat.reduceEqDiff, eq_self, if_true, if_false, not_true_eq_false, not_false_eq_true]
set_option maxHeartbeats 1000000 in
theorem wo_m6 {n E p len : Nat} {τ : wg_M} {x y : Int32} (hp : p < E) (hE : E ≤ 400) (hl : len < 30) (hs : τ 16 p = nI 6) (hx : τ 23 len = x) (hy : τ 23 (len + 1) = y) : f_X12_runs_12 (n + 1) 0 (nI 0) (nI E) (nI (len + 2)) (nI p) τ = f_X12_runs_12 n 0 (nI 0) (nI E) (nI (len + 1)) (nI (p + 1)) (wg_u τ 23 len (wo_2 6 x y)) := by
  have e1 : nI (len + 2) - nI 1 = nI (len + 1) := nI_pred (len + 1)
  have e2 : nI (len + 1) - nI 1 = nI len := nI_pred len
  by_cases c : y ≤ x
  · simp -implicitDefEqProofs (disch := omega) only [e_X12_runs_12, e_X12_runs_12__1, e_X12_runs_12__2, e_X12_runs_12__3, e_X12_runs_12__4, e_X12_runs_12__5, e_X12_runs_12__6, e_X12_runs_12__7, e_X12_runs_12__8, e_X12_runs_12__9, e_X12_runs_12__10, e_X12_runs_12__11, e_X12_runs_12__12, e_X12_runs_170, e_X12_runs_170__1, e_X12_twoOf, e_X12_twoOf__1, hs, hx, hy, e1, e2, wo_2, Nat.reduceEqDiff, Nat.zero_add, Nat.mul_zero, Nat.reduceMul, c, wx_bd, wx_let, wx_st, wx_lit, wx_ga, wx_sa, pk_mul, nI_add, wx_le, wx_lt, wx_eq, wx_en, wx_ne', wx_nn, wx_ltn, wx_len, wx_nlt, wx_nle, wx_bz0, wx_bz1, if_pos, if_neg, wx_ite, Nat.reduceEqDiff, eq_self, if_true, if_false, not_true_eq_false, not_false_eq_true]
  · simp -implicitDefEqProofs (disch := omega) only [e_X12_runs_12, e_X12_runs_12__1, e_X12_runs_12__2, e_X12_runs_12__3, e_X12_runs_12__4, e_X12_runs_12__5, e_X12_runs_12__6, e_X12_runs_12__7, e_X12_runs_12__8, e_X12_runs_12__9, e_X12_runs_12__10, e_X12_runs_12__11, e_X12_runs_12__12, e_X12_runs_170, e_X12_runs_170__1, e_X12_twoOf, e_X12_twoOf__1, hs, hx, hy, e1, e2, wo_2, Nat.reduceEqDiff, Nat.zero_add, Nat.mul_zero, Nat.reduceMul, c, wx_bd, wx_let, wx_st, wx_lit, wx_ga, wx_sa, pk_mul, nI_add, wx_le, wx_lt, wx_eq, wx_en, wx_ne', wx_nn, wx_ltn, wx_len, wx_nlt, wx_nle, wx_bz0, wx_bz1, if_pos, if_neg, wx_ite, Nat.reduceEqDiff, eq_self, if_true, if_false, not_true_eq_false, not_false_eq_true]
set_option maxHeartbeats 1000000 in
theorem wo_c7 {n E p len : Nat} {σ : wg_M} {x y : Int32} (hp : p < E) (hE : E ≤ 400) (hl : len < 30) (hs : σ 27 p = nI 61) (hx : σ 33 len = x) (hy : σ 33 (len + 1) = y) : f_X3_run_5 (n + 1) 26 (nI E) (nI (len + 2)) (nI p) σ = f_X3_run_5 n 26 (nI E) (nI (len + 1)) (nI (p + 1)) (wg_u σ 33 len (wo_2 7 x y)) := by
  have e1 : nI (len + 2) + -nI 1 = nI (len + 1) := sb_m1 (by omega)
  have e2 : nI (len + 1) - nI 1 = nI len := nI_pred len
  by_cases c : x = y
  · simp -implicitDefEqProofs (disch := omega) only [e_X3_run_5, e_X3_run_5__1, e_X3_run_5__2, e_X3_run_5__3, e_X3_run_5__4, e_X3_run_5__5, e_X3_run_5__6, e_X3_run_5__7, e_X3_run_5__8, e_X3_run_5__9, e_X3_run_5__10, e_X3_run_5__11, e_X3_run_5__12, e_X3_run_5__13, e_X3_run_5__14, e_X3_run_5__15, e_X3_run_191, e_X3_run_191__1, e_X3_joined, wg_lz, hs, hx, hy, e1, e2, wo_i42, wo_i43, wo_i45, wo_i60, wo_i61, wo_i62, wo_i270, wo_i271, Int.reduceEq, wo_2, Nat.reduceEqDiff, c, wx_bd, wx_let, wx_st, wx_lit, wx_ga, wx_sa, pk_mul, nI_add, wx_le, wx_lt, wx_eq, wx_en, wx_ne', wx_nn, wx_ltn, wx_len, wx_nlt, wx_nle, wx_bz0, wx_bz1, if_pos, if_neg, wx_ite, Nat.reduceEqDiff, eq_self, if_true, if_false, not_true_eq_false, not_false_eq_true]
  · simp -implicitDefEqProofs (disch := omega) only [e_X3_run_5, e_X3_run_5__1, e_X3_run_5__2, e_X3_run_5__3, e_X3_run_5__4, e_X3_run_5__5, e_X3_run_5__6, e_X3_run_5__7, e_X3_run_5__8, e_X3_run_5__9, e_X3_run_5__10, e_X3_run_5__11, e_X3_run_5__12, e_X3_run_5__13, e_X3_run_5__14, e_X3_run_5__15, e_X3_run_191, e_X3_run_191__1, e_X3_joined, wg_lz, hs, hx, hy, e1, e2, wo_i42, wo_i43, wo_i45, wo_i60, wo_i61, wo_i62, wo_i270, wo_i271, Int.reduceEq, wo_2, Nat.reduceEqDiff, c, wx_bd, wx_let, wx_st, wx_lit, wx_ga, wx_sa, pk_mul, nI_add, wx_le, wx_lt, wx_eq, wx_en, wx_ne', wx_nn, wx_ltn, wx_len, wx_nlt, wx_nle, wx_bz0, wx_bz1, if_pos, if_neg, wx_ite, Nat.reduceEqDiff, eq_self, if_true, if_false, not_true_eq_false, not_false_eq_true]
set_option maxHeartbeats 1000000 in
theorem wo_m7 {n E p len : Nat} {τ : wg_M} {x y : Int32} (hp : p < E) (hE : E ≤ 400) (hl : len < 30) (hs : τ 16 p = nI 7) (hx : τ 23 len = x) (hy : τ 23 (len + 1) = y) : f_X12_runs_12 (n + 1) 0 (nI 0) (nI E) (nI (len + 2)) (nI p) τ = f_X12_runs_12 n 0 (nI 0) (nI E) (nI (len + 1)) (nI (p + 1)) (wg_u τ 23 len (wo_2 7 x y)) := by
  have e1 : nI (len + 2) - nI 1 = nI (len + 1) := nI_pred (len + 1)
  have e2 : nI (len + 1) - nI 1 = nI len := nI_pred len
  by_cases c : x = y
  · simp -implicitDefEqProofs (disch := omega) only [e_X12_runs_12, e_X12_runs_12__1, e_X12_runs_12__2, e_X12_runs_12__3, e_X12_runs_12__4, e_X12_runs_12__5, e_X12_runs_12__6, e_X12_runs_12__7, e_X12_runs_12__8, e_X12_runs_12__9, e_X12_runs_12__10, e_X12_runs_12__11, e_X12_runs_12__12, e_X12_runs_170, e_X12_runs_170__1, e_X12_twoOf, e_X12_twoOf__1, hs, hx, hy, e1, e2, wo_2, Nat.reduceEqDiff, Nat.zero_add, Nat.mul_zero, Nat.reduceMul, c, wx_bd, wx_let, wx_st, wx_lit, wx_ga, wx_sa, pk_mul, nI_add, wx_le, wx_lt, wx_eq, wx_en, wx_ne', wx_nn, wx_ltn, wx_len, wx_nlt, wx_nle, wx_bz0, wx_bz1, if_pos, if_neg, wx_ite, Nat.reduceEqDiff, eq_self, if_true, if_false, not_true_eq_false, not_false_eq_true]
  · simp -implicitDefEqProofs (disch := omega) only [e_X12_runs_12, e_X12_runs_12__1, e_X12_runs_12__2, e_X12_runs_12__3, e_X12_runs_12__4, e_X12_runs_12__5, e_X12_runs_12__6, e_X12_runs_12__7, e_X12_runs_12__8, e_X12_runs_12__9, e_X12_runs_12__10, e_X12_runs_12__11, e_X12_runs_12__12, e_X12_runs_170, e_X12_runs_170__1, e_X12_twoOf, e_X12_twoOf__1, hs, hx, hy, e1, e2, wo_2, Nat.reduceEqDiff, Nat.zero_add, Nat.mul_zero, Nat.reduceMul, c, wx_bd, wx_let, wx_st, wx_lit, wx_ga, wx_sa, pk_mul, nI_add, wx_le, wx_lt, wx_eq, wx_en, wx_ne', wx_nn, wx_ltn, wx_len, wx_nlt, wx_nle, wx_bz0, wx_bz1, if_pos, if_neg, wx_ite, Nat.reduceEqDiff, eq_self, if_true, if_false, not_true_eq_false, not_false_eq_true]
set_option maxHeartbeats 1000000 in
theorem wo_c8 {n E p len : Nat} {σ : wg_M} {x y : Int32} (hp : p < E) (hE : E ≤ 400) (hl : len < 30) (hs : σ 27 p = nI 62) (hx : σ 33 len = x) (hy : σ 33 (len + 1) = y) : f_X3_run_5 (n + 1) 26 (nI E) (nI (len + 2)) (nI p) σ = f_X3_run_5 n 26 (nI E) (nI (len + 1)) (nI (p + 1)) (wg_u σ 33 len (wo_2 8 x y)) := by
  have e1 : nI (len + 2) + -nI 1 = nI (len + 1) := sb_m1 (by omega)
  have e2 : nI (len + 1) - nI 1 = nI len := nI_pred len
  by_cases c : x ≤ y
  · simp -implicitDefEqProofs (disch := omega) only [e_X3_run_5, e_X3_run_5__1, e_X3_run_5__2, e_X3_run_5__3, e_X3_run_5__4, e_X3_run_5__5, e_X3_run_5__6, e_X3_run_5__7, e_X3_run_5__8, e_X3_run_5__9, e_X3_run_5__10, e_X3_run_5__11, e_X3_run_5__12, e_X3_run_5__13, e_X3_run_5__14, e_X3_run_5__15, e_X3_run_191, e_X3_run_191__1, e_X3_joined, wg_lz, hs, hx, hy, e1, e2, wo_i42, wo_i43, wo_i45, wo_i60, wo_i61, wo_i62, wo_i270, wo_i271, Int.reduceEq, wo_2, Nat.reduceEqDiff, c, wx_bd, wx_let, wx_st, wx_lit, wx_ga, wx_sa, pk_mul, nI_add, wx_le, wx_lt, wx_eq, wx_en, wx_ne', wx_nn, wx_ltn, wx_len, wx_nlt, wx_nle, wx_bz0, wx_bz1, if_pos, if_neg, wx_ite, Nat.reduceEqDiff, eq_self, if_true, if_false, not_true_eq_false, not_false_eq_true]
  · simp -implicitDefEqProofs (disch := omega) only [e_X3_run_5, e_X3_run_5__1, e_X3_run_5__2, e_X3_run_5__3, e_X3_run_5__4, e_X3_run_5__5, e_X3_run_5__6, e_X3_run_5__7, e_X3_run_5__8, e_X3_run_5__9, e_X3_run_5__10, e_X3_run_5__11, e_X3_run_5__12, e_X3_run_5__13, e_X3_run_5__14, e_X3_run_5__15, e_X3_run_191, e_X3_run_191__1, e_X3_joined, wg_lz, hs, hx, hy, e1, e2, wo_i42, wo_i43, wo_i45, wo_i60, wo_i61, wo_i62, wo_i270, wo_i271, Int.reduceEq, wo_2, Nat.reduceEqDiff, c, wx_bd, wx_let, wx_st, wx_lit, wx_ga, wx_sa, pk_mul, nI_add, wx_le, wx_lt, wx_eq, wx_en, wx_ne', wx_nn, wx_ltn, wx_len, wx_nlt, wx_nle, wx_bz0, wx_bz1, if_pos, if_neg, wx_ite, Nat.reduceEqDiff, eq_self, if_true, if_false, not_true_eq_false, not_false_eq_true]
set_option maxHeartbeats 1000000 in
theorem wo_m8 {n E p len : Nat} {τ : wg_M} {x y : Int32} (hp : p < E) (hE : E ≤ 400) (hl : len < 30) (hs : τ 16 p = nI 8) (hx : τ 23 len = x) (hy : τ 23 (len + 1) = y) : f_X12_runs_12 (n + 1) 0 (nI 0) (nI E) (nI (len + 2)) (nI p) τ = f_X12_runs_12 n 0 (nI 0) (nI E) (nI (len + 1)) (nI (p + 1)) (wg_u τ 23 len (wo_2 8 x y)) := by
  have e1 : nI (len + 2) - nI 1 = nI (len + 1) := nI_pred (len + 1)
  have e2 : nI (len + 1) - nI 1 = nI len := nI_pred len
  by_cases c : x ≤ y
  · simp -implicitDefEqProofs (disch := omega) only [e_X12_runs_12, e_X12_runs_12__1, e_X12_runs_12__2, e_X12_runs_12__3, e_X12_runs_12__4, e_X12_runs_12__5, e_X12_runs_12__6, e_X12_runs_12__7, e_X12_runs_12__8, e_X12_runs_12__9, e_X12_runs_12__10, e_X12_runs_12__11, e_X12_runs_12__12, e_X12_runs_170, e_X12_runs_170__1, e_X12_twoOf, e_X12_twoOf__1, hs, hx, hy, e1, e2, wo_2, Nat.reduceEqDiff, Nat.zero_add, Nat.mul_zero, Nat.reduceMul, c, wx_bd, wx_let, wx_st, wx_lit, wx_ga, wx_sa, pk_mul, nI_add, wx_le, wx_lt, wx_eq, wx_en, wx_ne', wx_nn, wx_ltn, wx_len, wx_nlt, wx_nle, wx_bz0, wx_bz1, if_pos, if_neg, wx_ite, Nat.reduceEqDiff, eq_self, if_true, if_false, not_true_eq_false, not_false_eq_true]
  · simp -implicitDefEqProofs (disch := omega) only [e_X12_runs_12, e_X12_runs_12__1, e_X12_runs_12__2, e_X12_runs_12__3, e_X12_runs_12__4, e_X12_runs_12__5, e_X12_runs_12__6, e_X12_runs_12__7, e_X12_runs_12__8, e_X12_runs_12__9, e_X12_runs_12__10, e_X12_runs_12__11, e_X12_runs_12__12, e_X12_runs_170, e_X12_runs_170__1, e_X12_twoOf, e_X12_twoOf__1, hs, hx, hy, e1, e2, wo_2, Nat.reduceEqDiff, Nat.zero_add, Nat.mul_zero, Nat.reduceMul, c, wx_bd, wx_let, wx_st, wx_lit, wx_ga, wx_sa, pk_mul, nI_add, wx_le, wx_lt, wx_eq, wx_en, wx_ne', wx_nn, wx_ltn, wx_len, wx_nlt, wx_nle, wx_bz0, wx_bz1, if_pos, if_neg, wx_ite, Nat.reduceEqDiff, eq_self, if_true, if_false, not_true_eq_false, not_false_eq_true]
set_option maxHeartbeats 1000000 in
theorem wo_c10 {n E p len : Nat} {σ : wg_M} {x y : Int32} (hp : p < E) (hE : E ≤ 400) (hl : len < 30) (hs : σ 27 p = nI 271) (hx : σ 33 len = x) (hy : σ 33 (len + 1) = y) : f_X3_run_5 (n + 1) 26 (nI E) (nI (len + 2)) (nI p) σ = f_X3_run_5 n 26 (nI E) (nI (len + 1)) (nI (p + 1)) (wg_u σ 33 len (wo_2 10 x y)) := by
  have e1 : nI (len + 2) + -nI 1 = nI (len + 1) := sb_m1 (by omega)
  have e2 : nI (len + 1) - nI 1 = nI len := nI_pred len
  simp -implicitDefEqProofs (disch := omega) only [e_X3_run_5, e_X3_run_5__1, e_X3_run_5__2, e_X3_run_5__3, e_X3_run_5__4, e_X3_run_5__5, e_X3_run_5__6, e_X3_run_5__7, e_X3_run_5__8, e_X3_run_5__9, e_X3_run_5__10, e_X3_run_5__11, e_X3_run_5__12, e_X3_run_5__13, e_X3_run_5__14, e_X3_run_5__15, e_X3_run_191, e_X3_run_191__1, e_X3_joined, wg_lz, hs, hx, hy, e1, e2, wo_i42, wo_i43, wo_i45, wo_i60, wo_i61, wo_i62, wo_i270, wo_i271, Int.reduceEq, wo_2, Nat.reduceEqDiff, wx_bd, wx_let, wx_st, wx_lit, wx_ga, wx_sa, pk_mul, nI_add, wx_le, wx_lt, wx_eq, wx_en, wx_ne', wx_nn, wx_ltn, wx_len, wx_nlt, wx_nle, wx_bz0, wx_bz1, if_pos, if_neg, wx_ite, Nat.reduceEqDiff, eq_self, if_true, if_false, not_true_eq_false, not_false_eq_true]
set_option maxHeartbeats 1000000 in
theorem wo_m10 {n E p len : Nat} {τ : wg_M} {x y : Int32} (hp : p < E) (hE : E ≤ 400) (hl : len < 30) (hs : τ 16 p = nI 10) (hx : τ 23 len = x) (hy : τ 23 (len + 1) = y) (bx : x = nI 0 ∨ x = nI 1) (by0 : y = nI 0 ∨ y = nI 1) : f_X12_runs_12 (n + 1) 0 (nI 0) (nI E) (nI (len + 2)) (nI p) τ = f_X12_runs_12 n 0 (nI 0) (nI E) (nI (len + 1)) (nI (p + 1)) (wg_u τ 23 len (wo_2 10 x y)) := by
  have e1 : nI (len + 2) - nI 1 = nI (len + 1) := nI_pred (len + 1)
  have e2 : nI (len + 1) - nI 1 = nI len := nI_pred len
  have hz : x * y = x &&& y := by
    rcases bx with rfl | rfl <;> rcases by0 with rfl | rfl <;> decide
  simp -implicitDefEqProofs (disch := omega) only [e_X12_runs_12, e_X12_runs_12__1, e_X12_runs_12__2, e_X12_runs_12__3, e_X12_runs_12__4, e_X12_runs_12__5, e_X12_runs_12__6, e_X12_runs_12__7, e_X12_runs_12__8, e_X12_runs_12__9, e_X12_runs_12__10, e_X12_runs_12__11, e_X12_runs_12__12, e_X12_runs_170, e_X12_runs_170__1, e_X12_twoOf, e_X12_twoOf__1, hs, hx, hy, e1, e2, wo_2, Nat.reduceEqDiff, Nat.zero_add, Nat.mul_zero, Nat.reduceMul, hz, wx_bd, wx_let, wx_st, wx_lit, wx_ga, wx_sa, pk_mul, nI_add, wx_le, wx_lt, wx_eq, wx_en, wx_ne', wx_nn, wx_ltn, wx_len, wx_nlt, wx_nle, wx_bz0, wx_bz1, if_pos, if_neg, wx_ite, Nat.reduceEqDiff, eq_self, if_true, if_false, not_true_eq_false, not_false_eq_true]
set_option maxHeartbeats 1000000 in
theorem wo_c11 {n E p len : Nat} {σ : wg_M} {x y : Int32} (hp : p < E) (hE : E ≤ 400) (hl : len < 30) (hs : σ 27 p = nI 270) (hx : σ 33 len = x) (hy : σ 33 (len + 1) = y) : f_X3_run_5 (n + 1) 26 (nI E) (nI (len + 2)) (nI p) σ = f_X3_run_5 n 26 (nI E) (nI (len + 1)) (nI (p + 1)) (wg_u σ 33 len (wo_2 11 x y)) := by
  have e1 : nI (len + 2) + -nI 1 = nI (len + 1) := sb_m1 (by omega)
  have e2 : nI (len + 1) - nI 1 = nI len := nI_pred len
  simp -implicitDefEqProofs (disch := omega) only [e_X3_run_5, e_X3_run_5__1, e_X3_run_5__2, e_X3_run_5__3, e_X3_run_5__4, e_X3_run_5__5, e_X3_run_5__6, e_X3_run_5__7, e_X3_run_5__8, e_X3_run_5__9, e_X3_run_5__10, e_X3_run_5__11, e_X3_run_5__12, e_X3_run_5__13, e_X3_run_5__14, e_X3_run_5__15, e_X3_run_191, e_X3_run_191__1, e_X3_joined, wg_lz, hs, hx, hy, e1, e2, wo_i42, wo_i43, wo_i45, wo_i60, wo_i61, wo_i62, wo_i270, wo_i271, Int.reduceEq, wo_2, Nat.reduceEqDiff, wx_bd, wx_let, wx_st, wx_lit, wx_ga, wx_sa, pk_mul, nI_add, wx_le, wx_lt, wx_eq, wx_en, wx_ne', wx_nn, wx_ltn, wx_len, wx_nlt, wx_nle, wx_bz0, wx_bz1, if_pos, if_neg, wx_ite, Nat.reduceEqDiff, eq_self, if_true, if_false, not_true_eq_false, not_false_eq_true]
set_option maxHeartbeats 1000000 in
theorem wo_m11 {n E p len : Nat} {τ : wg_M} {x y : Int32} (hp : p < E) (hE : E ≤ 400) (hl : len < 30) (hs : τ 16 p = nI 11) (hx : τ 23 len = x) (hy : τ 23 (len + 1) = y) (bx : x = nI 0 ∨ x = nI 1) (by0 : y = nI 0 ∨ y = nI 1) : f_X12_runs_12 (n + 1) 0 (nI 0) (nI E) (nI (len + 2)) (nI p) τ = f_X12_runs_12 n 0 (nI 0) (nI E) (nI (len + 1)) (nI (p + 1)) (wg_u τ 23 len (wo_2 11 x y)) := by
  have e1 : nI (len + 2) - nI 1 = nI (len + 1) := nI_pred (len + 1)
  have e2 : nI (len + 1) - nI 1 = nI len := nI_pred len
  by_cases c : x + y ≤ nI 0
  · have hz : x ||| y = nI 0 := by
      rcases bx with rfl | rfl <;> rcases by0 with rfl | rfl <;> first | decide | (exfalso; revert c; decide)
    simp -implicitDefEqProofs (disch := omega) only [e_X12_runs_12, e_X12_runs_12__1, e_X12_runs_12__2, e_X12_runs_12__3, e_X12_runs_12__4, e_X12_runs_12__5, e_X12_runs_12__6, e_X12_runs_12__7, e_X12_runs_12__8, e_X12_runs_12__9, e_X12_runs_12__10, e_X12_runs_12__11, e_X12_runs_12__12, e_X12_runs_170, e_X12_runs_170__1, e_X12_twoOf, e_X12_twoOf__1, hs, hx, hy, e1, e2, wo_2, Nat.reduceEqDiff, Nat.zero_add, Nat.mul_zero, Nat.reduceMul, hz, c, wx_bd, wx_let, wx_st, wx_lit, wx_ga, wx_sa, pk_mul, nI_add, wx_le, wx_lt, wx_eq, wx_en, wx_ne', wx_nn, wx_ltn, wx_len, wx_nlt, wx_nle, wx_bz0, wx_bz1, if_pos, if_neg, wx_ite, Nat.reduceEqDiff, eq_self, if_true, if_false, not_true_eq_false, not_false_eq_true]
  · have hz : x ||| y = nI 1 := by
      rcases bx with rfl | rfl <;> rcases by0 with rfl | rfl <;> first | decide | (exfalso; revert c; decide)
    simp -implicitDefEqProofs (disch := omega) only [e_X12_runs_12, e_X12_runs_12__1, e_X12_runs_12__2, e_X12_runs_12__3, e_X12_runs_12__4, e_X12_runs_12__5, e_X12_runs_12__6, e_X12_runs_12__7, e_X12_runs_12__8, e_X12_runs_12__9, e_X12_runs_12__10, e_X12_runs_12__11, e_X12_runs_12__12, e_X12_runs_170, e_X12_runs_170__1, e_X12_twoOf, e_X12_twoOf__1, hs, hx, hy, e1, e2, wo_2, Nat.reduceEqDiff, Nat.zero_add, Nat.mul_zero, Nat.reduceMul, hz, c, wx_bd, wx_let, wx_st, wx_lit, wx_ga, wx_sa, pk_mul, nI_add, wx_le, wx_lt, wx_eq, wx_en, wx_ne', wx_nn, wx_ltn, wx_len, wx_nlt, wx_nle, wx_bz0, wx_bz1, if_pos, if_neg, wx_ite, Nat.reduceEqDiff, eq_self, if_true, if_false, not_true_eq_false, not_false_eq_true]

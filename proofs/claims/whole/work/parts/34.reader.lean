def ob_6 (b : Nat) (x1 : Nat) : wc_X := (8, 0, ((((((((((wc_df 6).set 1 (.inr (some (b + 0)))).set 3 (.inr (some (b + 1)))).set 4 (.inr (some (b + 2)))).set 5 (.inr (some (b + 3)))).set 9 (.inl (-1 : Int32))).set 10 (.inr (some (b + 4)))).set 11 (.inr (some (b + 12)))).set 12 (.inr (some (b + 17)))).set 0 (.inr (some x1))))
def nw_6 (b : Nat) : wc_W := ((((((((([] ++ [(0, 400, [])]) ++ [(0, 401, [])]) ++ [(0, 401, [])]) ++ [(0, 401, [])]) ++ [ob_3 (b + 5)]) ++ nw_3 (b + 5)) ++ [ob_4 (b + 13) 16]) ++ nw_4 (b + 13) 16) ++ [(0, 32, [])])
theorem nl_6 {b : Nat} : (nw_6 b).length = 18 := by simp only [nw_6, List.length_append, List.length_cons, List.length_nil, nl_9, nl_2, nl_0, nl_4, nl_3, nl_8, nl_10, Nat.reduceAdd]
abbrev rm_X6_init : Room := { frames := 2, cells := 18, slots := 3339, locals := 35 }
def tb_X6_init : List (Nat × Instr × Nat) := [(0, .aload_n 0, 1), (1, .invokespecial 3, 3), (4, .aload_n 0, 1), (5, .sipush 400, 3), (8, .newarray .int, 2), (10, .putfield 9, 3), (13, .aload_n 0, 1), (14, .sipush 401, 3), (17, .newarray .int, 2), (19, .putfield 15, 3), (22, .aload_n 0, 1), (23, .sipush 401, 3), (26, .newarray .int, 2), (28, .putfield 18, 3), (31, .aload_n 0, 1), (32, .sipush 401, 3), (35, .newarray .int, 2), (37, .putfield 21, 3), (40, .aload_n 0, 1), (41, .iconst (-1), 1), (42, .putfield 24, 3), (45, .aload_n 0, 1), (46, .new 28, 3), (49, .dup, 1), (50, .invokespecial 30, 3), (53, .putfield 31, 3), (56, .aload_n 0, 1), (57, .new 35, 3), (60, .dup, 1), (61, .bipush 16, 2), (63, .invokespecial 37, 3), (66, .putfield 40, 3), (69, .aload_n 0, 1), (70, .bipush 32, 2), (72, .newarray .int, 2), (74, .putfield 44, 3), (77, .aload_n 0, 1), (78, .aload_n 1, 1), (79, .putfield 47, 3), (82, .return_, 1)]
theorem dt_X6_init : wg_dc cX6_init tb_X6_init := by unfold wg_dc; decide +kernel
set_option maxHeartbeats 40000000 in
set_option maxRecDepth 40000 in
theorem ct_6 (l : Launch) (F : wc_F) (w : wc_W) (k : Nat) (hw : w[k]? = some (8, 0, wc_df 6)) (b : Nat) (hb : w.length = b) (x1 : Nat) (hx1 : x1 < w.length) : wc_MG l F yX6_init cX6_init 2 rm_X6_init 18 3339 [.ref k, .ref x1] w (wc_K w k (ob_6 b x1) (nw_6 b)) := by
  subst hb
  have hk : k < w.length := (List.getElem?_eq_some_iff.mp hw).1
  refine wc_met [.ref k, .ref x1] (by decide) rfl (Nat.le_of_ble_eq_true rfl) (fun ad0 => ?_)
  have e0 : w = wc_K w k (8, 0, wc_df 6) [] := by
    apply List.ext_getElem?
    intro j
    rw [wc_K, List.append_nil, List.getElem?_set]
    split
    · next h => subst h; first | (rw [if_pos hk]; exact hw) | exact hw
    · rfl
  suffices h9 : wc_G l F "WornWigs$Reader" cX6_init 2 rm_X6_init 18 3339 w.length ad0 (wc_K w k (ob_6 w.length x1) (nw_6 w.length)) 0 [.ref k, .ref x1] [] (wc_K w k (8, 0, wc_df 6) []) 0 0 by
    rw [← e0] at h9; exact h9
  refine wk_aload_n (wg_da dt_X6_init 0 rfl) rfl ?_
  refine wk_obj (wg_da dt_X6_init 1 rfl) ⟨wq_2_153, wq_1_28, wq_1_29⟩ (by decide) (by decide) ?_
  refine wk_aload_n (wg_da dt_X6_init 2 rfl) rfl ?_
  refine wk_sipush (400 : Int32) (wg_da dt_X6_init 3 rfl) (by decide) ?_
  refine wk_newaK 400 0 (wg_da dt_X6_init 4 rfl) wq_arr (by decide) (by decide) (by decide) (by simp only [List.length_append, List.length_cons, List.length_nil, nl_9, nl_2, nl_0, nl_4, nl_3, nl_8, nl_10, Nat.reduceAdd, Nat.reduceLT]) (by decide) (by decide) (And.intro (Nat.lt_add_right _ hk) (And.intro (Nat.lt_add_right _ hx1) trivial)) (And.intro (Nat.lt_add_right _ hk) trivial) (Nat.le_add_right _ _) ?_
  refine wk_putRk wcf_X6_9 (wg_da dt_X6_init 5 rfl) hk (Nat.le_of_ble_eq_true rfl) (Nat.add_lt_add_left (by simp only [List.length_append, List.length_cons, List.length_nil, nl_9, nl_2, nl_0, nl_4, nl_3, nl_8, nl_10, Nat.reduceAdd, Nat.reduceLT]) _) ?_
  refine wk_aload_n (wg_da dt_X6_init 6 rfl) rfl ?_
  refine wk_sipush (401 : Int32) (wg_da dt_X6_init 7 rfl) (by decide) ?_
  refine wk_newaK 401 1 (wg_da dt_X6_init 8 rfl) wq_arr (by decide) (by decide) (by decide) (by simp only [List.length_append, List.length_cons, List.length_nil, nl_9, nl_2, nl_0, nl_4, nl_3, nl_8, nl_10, Nat.reduceAdd, Nat.reduceLT]) (by decide) (by decide) (And.intro (Nat.lt_add_right _ hk) (And.intro (Nat.lt_add_right _ hx1) trivial)) (And.intro (Nat.lt_add_right _ hk) trivial) (Nat.le_add_right _ _) ?_
  refine wk_putRk wcf_X6_15 (wg_da dt_X6_init 9 rfl) hk (Nat.le_of_ble_eq_true rfl) (Nat.add_lt_add_left (by simp only [List.length_append, List.length_cons, List.length_nil, nl_9, nl_2, nl_0, nl_4, nl_3, nl_8, nl_10, Nat.reduceAdd, Nat.reduceLT]) _) ?_
  refine wk_aload_n (wg_da dt_X6_init 10 rfl) rfl ?_
  refine wk_sipush (401 : Int32) (wg_da dt_X6_init 11 rfl) (by decide) ?_
  refine wk_newaK 401 2 (wg_da dt_X6_init 12 rfl) wq_arr (by decide) (by decide) (by decide) (by simp only [List.length_append, List.length_cons, List.length_nil, nl_9, nl_2, nl_0, nl_4, nl_3, nl_8, nl_10, Nat.reduceAdd, Nat.reduceLT]) (by decide) (by decide) (And.intro (Nat.lt_add_right _ hk) (And.intro (Nat.lt_add_right _ hx1) trivial)) (And.intro (Nat.lt_add_right _ hk) trivial) (Nat.le_add_right _ _) ?_
  refine wk_putRk wcf_X6_18 (wg_da dt_X6_init 13 rfl) hk (Nat.le_of_ble_eq_true rfl) (Nat.add_lt_add_left (by simp only [List.length_append, List.length_cons, List.length_nil, nl_9, nl_2, nl_0, nl_4, nl_3, nl_8, nl_10, Nat.reduceAdd, Nat.reduceLT]) _) ?_
  refine wk_aload_n (wg_da dt_X6_init 14 rfl) rfl ?_
  refine wk_sipush (401 : Int32) (wg_da dt_X6_init 15 rfl) (by decide) ?_
  refine wk_newaK 401 3 (wg_da dt_X6_init 16 rfl) wq_arr (by decide) (by decide) (by decide) (by simp only [List.length_append, List.length_cons, List.length_nil, nl_9, nl_2, nl_0, nl_4, nl_3, nl_8, nl_10, Nat.reduceAdd, Nat.reduceLT]) (by decide) (by decide) (And.intro (Nat.lt_add_right _ hk) (And.intro (Nat.lt_add_right _ hx1) trivial)) (And.intro (Nat.lt_add_right _ hk) trivial) (Nat.le_add_right _ _) ?_
  refine wk_putRk wcf_X6_21 (wg_da dt_X6_init 17 rfl) hk (Nat.le_of_ble_eq_true rfl) (Nat.add_lt_add_left (by simp only [List.length_append, List.length_cons, List.length_nil, nl_9, nl_2, nl_0, nl_4, nl_3, nl_8, nl_10, Nat.reduceAdd, Nat.reduceLT]) _) ?_
  refine wk_aload_n (wg_da dt_X6_init 18 rfl) rfl ?_
  refine wk_iconst (-1 : Int32) (wg_da dt_X6_init 19 rfl) (by decide) ?_
  refine wk_putIk wfp_X6_24 (wg_da dt_X6_init 20 rfl) hk (Nat.le_of_ble_eq_true rfl) ?_
  refine wk_aload_n (wg_da dt_X6_init 21 rfl) rfl ?_
  refine wk_newK 4 wc_3 (wg_da dt_X6_init 22 rfl) ⟨wq_2_154, wq_1_235, wq_1_8⟩ (wc_d3) (wc_e3) (by simp only [List.length_append, List.length_cons, List.length_nil, nl_9, nl_2, nl_0, nl_4, nl_3, nl_8, nl_10, Nat.reduceAdd, Nat.reduceLT]) (by decide) (by decide) (And.intro (Nat.lt_add_right _ hk) (And.intro (Nat.lt_add_right _ hx1) trivial)) (And.intro (Nat.lt_add_right _ hk) trivial) (Nat.le_add_right _ _) ?_
  refine wk_dup (wg_da dt_X6_init 23 rfl) ?_
  refine wk_callNL 4 5 [] (wg_da dt_X6_init 24 rfl) ⟨List.mem_of_getElem? (i := 7) rfl, wq_1_237⟩ rfl wy_X3_init (by simp only [List.length_append, List.length_cons, List.length_nil, nl_9, nl_2, nl_0, nl_4, nl_3, nl_8, nl_10, Nat.reduceAdd, Nat.reduceLT]) rfl (ct_3 l F _ _ (wc_K_n (wc_last (by simp only [List.length_append, List.length_cons, List.length_nil, nl_9, nl_2, nl_0, nl_4, nl_3, nl_8, nl_10, Nat.reduceAdd, Nat.reduceLT]))) (w.length + 5) (by rw [wc_K_len]; exact congrArg _ (by simp only [List.length_append, List.length_cons, List.length_nil, nl_9, nl_2, nl_0, nl_4, nl_3, nl_8, nl_10, Nat.reduceAdd, Nat.reduceLT])) ) rfl [.ref (w.length + 4), .ref k] rfl (Nat.le_of_ble_eq_true rfl) ⟨rfl, rfl, by decide, by decide, by decide, by decide⟩ (And.intro (Nat.lt_add_right _ hk) (And.intro (Nat.lt_add_right _ hx1) trivial)) (And.intro (Nat.add_lt_add_left (Nat.le_of_ble_eq_true rfl) _) (And.intro (Nat.lt_add_right _ hk) trivial)) (Nat.le_add_right _ _) ?_
  refine wk_putRk wcf_X6_31 (wg_da dt_X6_init 25 rfl) hk (Nat.le_of_ble_eq_true rfl) (Nat.add_lt_add_left (by simp only [List.length_append, List.length_cons, List.length_nil, nl_9, nl_2, nl_0, nl_4, nl_3, nl_8, nl_10, Nat.reduceAdd, Nat.reduceLT]) _) ?_
  refine wk_aload_n (wg_da dt_X6_init 26 rfl) rfl ?_
  refine wk_newK 12 wc_4 (wg_da dt_X6_init 27 rfl) ⟨wq_2_156, wq_1_196, wq_1_6⟩ (wc_d4) (wc_e4) (by simp only [List.length_append, List.length_cons, List.length_nil, nl_9, nl_2, nl_0, nl_4, nl_3, nl_8, nl_10, Nat.reduceAdd, Nat.reduceLT]) (by decide) (by decide) (And.intro (Nat.lt_add_right _ hk) (And.intro (Nat.lt_add_right _ hx1) trivial)) (And.intro (Nat.lt_add_right _ hk) trivial) (Nat.le_add_right _ _) ?_
  refine wk_dup (wg_da dt_X6_init 28 rfl) ?_
  refine wk_bipush (16 : Int32) (wg_da dt_X6_init 29 rfl) (by decide) ?_
  refine wk_callIL 12 13 [.int (16 : Int32)] (wg_da dt_X6_init 30 rfl) ⟨wq_2_157, wq_1_198⟩ rfl wy_X4_init (by simp only [List.length_append, List.length_cons, List.length_nil, nl_9, nl_2, nl_0, nl_4, nl_3, nl_8, nl_10, Nat.reduceAdd, Nat.reduceLT]) rfl (ct_4 l F _ _ (wc_K_n (wc_last (by simp only [List.length_append, List.length_cons, List.length_nil, nl_9, nl_2, nl_0, nl_4, nl_3, nl_8, nl_10, Nat.reduceAdd, Nat.reduceLT]))) (w.length + 13) (by rw [wc_K_len]; exact congrArg _ (by simp only [List.length_append, List.length_cons, List.length_nil, nl_9, nl_2, nl_0, nl_4, nl_3, nl_8, nl_10, Nat.reduceAdd, Nat.reduceLT])) (16 : Int32) 16 (by decide) (by decide) (by decide) (by decide) (by decide)) rfl [.ref (w.length + 12), .ref k] rfl (Nat.le_of_ble_eq_true rfl) ⟨rfl, rfl, by decide, by decide, by decide, by decide⟩ (And.intro (Nat.lt_add_right _ hk) (And.intro (Nat.lt_add_right _ hx1) trivial)) (And.intro (Nat.add_lt_add_left (Nat.le_of_ble_eq_true rfl) _) (And.intro (Nat.lt_add_right _ hk) trivial)) (Nat.le_add_right _ _) ?_
  refine wk_putRk wcf_X6_40 (wg_da dt_X6_init 31 rfl) hk (Nat.le_of_ble_eq_true rfl) (Nat.add_lt_add_left (by simp only [List.length_append, List.length_cons, List.length_nil, nl_9, nl_2, nl_0, nl_4, nl_3, nl_8, nl_10, Nat.reduceAdd, Nat.reduceLT]) _) ?_
  refine wk_aload_n (wg_da dt_X6_init 32 rfl) rfl ?_
  refine wk_bipush (32 : Int32) (wg_da dt_X6_init 33 rfl) (by decide) ?_
  refine wk_newaK 32 17 (wg_da dt_X6_init 34 rfl) wq_arr (by decide) (by decide) (by decide) (by simp only [List.length_append, List.length_cons, List.length_nil, nl_9, nl_2, nl_0, nl_4, nl_3, nl_8, nl_10, Nat.reduceAdd, Nat.reduceLT]) (by decide) (by decide) (And.intro (Nat.lt_add_right _ hk) (And.intro (Nat.lt_add_right _ hx1) trivial)) (And.intro (Nat.lt_add_right _ hk) trivial) (Nat.le_add_right _ _) ?_
  refine wk_putRk wcf_X6_44 (wg_da dt_X6_init 35 rfl) hk (Nat.le_of_ble_eq_true rfl) (Nat.add_lt_add_left (by simp only [List.length_append, List.length_cons, List.length_nil, nl_9, nl_2, nl_0, nl_4, nl_3, nl_8, nl_10, Nat.reduceAdd, Nat.reduceLT]) _) ?_
  refine wk_aload_n (wg_da dt_X6_init 36 rfl) rfl ?_
  refine wk_aload_n (wg_da dt_X6_init 37 rfl) rfl ?_
  refine wk_putRk wcf_X6_47 (wg_da dt_X6_init 38 rfl) hk (Nat.le_of_ble_eq_true rfl) (Nat.lt_of_lt_of_le hx1 (Nat.le_add_right _ _)) ?_
  exact wk_ret (wg_da dt_X6_init 39 rfl) (by decide) (by decide)
def ob_1 (b : Nat) (x1 x1_0 x1_0_0 x1_0_1 x1_2 : Nat) : wc_X := (3, 0, (((((((wc_df 1).set 5 (.inr (some (b + 0)))).set 0 (.inr (some x1))).set 1 (.inr (some x1_0))).set 2 (.inr (some x1_0_0))).set 3 (.inr (some x1_0_1))).set 4 (.inr (some x1_2))))
def nw_1 (b : Nat) : wc_W := (([] ++ [ob_0 (b + 1)]) ++ nw_0 (b + 1))
theorem nl_1 {b : Nat} : (nw_1 b).length = 20 := by simp only [nw_1, List.length_append, List.length_cons, List.length_nil, nl_9, nl_2, nl_0, nl_4, nl_3, nl_8, nl_10, nl_6, Nat.reduceAdd]
abbrev rm_X1_init : Room := { frames := 3, cells := 20, slots := 363, locals := 52 }
def tb_X1_init : List (Nat × Instr × Nat) := [(0, .aload_n 0, 1), (1, .invokespecial 3, 3), (4, .aload_n 0, 1), (5, .new 9, 3), (8, .dup, 1), (9, .invokespecial 11, 3), (12, .putfield 12, 3), (15, .aload_n 0, 1), (16, .aload_n 1, 1), (17, .putfield 18, 3), (20, .aload_n 0, 1), (21, .aload_n 1, 1), (22, .getfield 22, 3), (25, .putfield 27, 3), (28, .aload_n 0, 1), (29, .aload_n 1, 1), (30, .getfield 22, 3), (33, .getfield 28, 3), (36, .putfield 32, 3), (39, .aload_n 0, 1), (40, .aload_n 1, 1), (41, .getfield 22, 3), (44, .getfield 33, 3), (47, .putfield 37, 3), (50, .aload_n 0, 1), (51, .aload_n 1, 1), (52, .getfield 38, 3), (55, .putfield 42, 3), (58, .return_, 1)]
theorem dt_X1_init : wg_dc cX1_init tb_X1_init := by unfold wg_dc; decide +kernel
set_option maxHeartbeats 40000000 in
set_option maxRecDepth 40000 in
theorem ct_1 (l : Launch) (F : wc_F) (w : wc_W) (k : Nat) (hw : w[k]? = some (3, 0, wc_df 1)) (b : Nat) (hb : w.length = b) (x1 x1_0 x1_0_0 x1_0_1 x1_2 : Nat) (fs1 fs2 : List wc_V) (hw_x1 : w[x1]? = some (12, 0, fs1)) (hw_x1_0 : w[x1_0]? = some (2, 0, fs2)) (hf_x1_0 : fs1[0]? = some (.inr (some x1_0))) (hf_x1_0_0 : fs2[0]? = some (.inr (some x1_0_0))) (hf_x1_0_1 : fs2[1]? = some (.inr (some x1_0_1))) (hf_x1_2 : fs1[2]? = some (.inr (some x1_2))) (hlt_0 : x1_0_0 < w.length ∧ x1_0_1 < w.length ∧ x1_2 < w.length) (hne : x1 ≠ k ∧ x1_0 ≠ k) : wc_MG l F yX1_init cX1_init 2 rm_X1_init 20 363 [.ref k, .ref x1] w (wc_K w k (ob_1 b x1 x1_0 x1_0_0 x1_0_1 x1_2) (nw_1 b)) := by
  subst hb
  have hk : k < w.length := (List.getElem?_eq_some_iff.mp hw).1
  have hne_x1 := hne.1
  have hne_x1_0 := hne.2
  have hx1 : x1 < w.length := (List.getElem?_eq_some_iff.mp hw_x1).1
  have hx1_0 : x1_0 < w.length := (List.getElem?_eq_some_iff.mp hw_x1_0).1
  have hx1_0_0 := hlt_0.1
  have hx1_0_1 := hlt_0.2.1
  have hx1_2 := hlt_0.2.2
  refine wc_met [.ref k, .ref x1] (by decide) rfl (Nat.le_of_ble_eq_true rfl) (fun ad0 => ?_)
  have e0 : w = wc_K w k (3, 0, wc_df 1) [] := by
    apply List.ext_getElem?
    intro j
    rw [wc_K, List.append_nil, List.getElem?_set]
    split
    · next h => subst h; first | (rw [if_pos hk]; exact hw) | exact hw
    · rfl
  suffices h9 : wc_G l F "WornWigs$Court" cX1_init 2 rm_X1_init 20 363 w.length ad0 (wc_K w k (ob_1 w.length x1 x1_0 x1_0_0 x1_0_1 x1_2) (nw_1 w.length)) 0 [.ref k, .ref x1] [] (wc_K w k (3, 0, wc_df 1) []) 0 0 by
    rw [← e0] at h9; exact h9
  refine wk_aload_n (wg_da dt_X1_init 0 rfl) rfl ?_
  refine wk_obj (wg_da dt_X1_init 1 rfl) ⟨wq_2_216, wq_1_28, wq_1_29⟩ (by decide) (by decide) ?_
  refine wk_aload_n (wg_da dt_X1_init 2 rfl) rfl ?_
  refine wk_newK 0 wc_0 (wg_da dt_X1_init 3 rfl) ⟨wq_2_217, wq_1_37, wq_1_3⟩ (wc_d0) (wc_e0) (by simp only [List.length_append, List.length_cons, List.length_nil, nl_9, nl_2, nl_0, nl_4, nl_3, nl_8, nl_10, nl_6, Nat.reduceAdd, Nat.reduceLT]) (by decide) (by decide) (And.intro (Nat.lt_add_right _ hk) (And.intro (Nat.lt_add_right _ hx1) trivial)) (And.intro (Nat.lt_add_right _ hk) trivial) (Nat.le_add_right _ _) ?_
  refine wk_dup (wg_da dt_X1_init 4 rfl) ?_
  refine wk_callNL 0 1 [] (wg_da dt_X1_init 5 rfl) ⟨List.mem_of_getElem? (i := 8) rfl, wq_1_39⟩ rfl wy_X0_init (by simp only [List.length_append, List.length_cons, List.length_nil, nl_9, nl_2, nl_0, nl_4, nl_3, nl_8, nl_10, nl_6, Nat.reduceAdd, Nat.reduceLT]) rfl (ct_0 l F _ _ (wc_K_n (wc_last (by simp only [List.length_append, List.length_cons, List.length_nil, nl_9, nl_2, nl_0, nl_4, nl_3, nl_8, nl_10, nl_6, Nat.reduceAdd, Nat.reduceLT]))) (w.length + 1) (by rw [wc_K_len]; exact congrArg _ (by simp only [List.length_append, List.length_cons, List.length_nil, nl_9, nl_2, nl_0, nl_4, nl_3, nl_8, nl_10, nl_6, Nat.reduceAdd, Nat.reduceLT])) ) rfl [.ref (w.length + 0), .ref k] rfl (Nat.le_of_ble_eq_true rfl) ⟨rfl, rfl, by decide, by decide, by decide, by decide⟩ (And.intro (Nat.lt_add_right _ hk) (And.intro (Nat.lt_add_right _ hx1) trivial)) (And.intro (Nat.add_lt_add_left (Nat.le_of_ble_eq_true rfl) _) (And.intro (Nat.lt_add_right _ hk) trivial)) (Nat.le_add_right _ _) ?_
  refine wk_putRk wcf_X1_12 (wg_da dt_X1_init 6 rfl) hk (Nat.le_of_ble_eq_true rfl) (Nat.add_lt_add_left (by simp only [List.length_append, List.length_cons, List.length_nil, nl_9, nl_2, nl_0, nl_4, nl_3, nl_8, nl_10, nl_6, Nat.reduceAdd, Nat.reduceLT]) _) ?_
  refine wk_aload_n (wg_da dt_X1_init 7 rfl) rfl ?_
  refine wk_aload_n (wg_da dt_X1_init 8 rfl) rfl ?_
  refine wk_putRk wcf_X1_18 (wg_da dt_X1_init 9 rfl) hk (Nat.le_of_ble_eq_true rfl) (Nat.lt_of_lt_of_le hx1 (Nat.le_add_right _ _)) ?_
  refine wk_aload_n (wg_da dt_X1_init 10 rfl) rfl ?_
  refine wk_aload_n (wg_da dt_X1_init 11 rfl) rfl ?_
  refine wk_getF wf_X1_22 (wg_da dt_X1_init 12 rfl) (wc_K_o hw_x1 hne_x1) hf_x1_0 ?_
  refine wk_putRk wcf_X1_27 (wg_da dt_X1_init 13 rfl) hk (Nat.le_of_ble_eq_true rfl) (Nat.lt_of_lt_of_le hx1_0 (Nat.le_add_right _ _)) ?_
  refine wk_aload_n (wg_da dt_X1_init 14 rfl) rfl ?_
  refine wk_aload_n (wg_da dt_X1_init 15 rfl) rfl ?_
  refine wk_getF wf_X1_22 (wg_da dt_X1_init 16 rfl) (wc_K_o hw_x1 hne_x1) hf_x1_0 ?_
  refine wk_getF wf_X1_28 (wg_da dt_X1_init 17 rfl) (wc_K_o hw_x1_0 hne_x1_0) hf_x1_0_0 ?_
  refine wk_putRk wcf_X1_32 (wg_da dt_X1_init 18 rfl) hk (Nat.le_of_ble_eq_true rfl) (Nat.lt_of_lt_of_le hx1_0_0 (Nat.le_add_right _ _)) ?_
  refine wk_aload_n (wg_da dt_X1_init 19 rfl) rfl ?_
  refine wk_aload_n (wg_da dt_X1_init 20 rfl) rfl ?_
  refine wk_getF wf_X1_22 (wg_da dt_X1_init 21 rfl) (wc_K_o hw_x1 hne_x1) hf_x1_0 ?_
  refine wk_getF wf_X1_33 (wg_da dt_X1_init 22 rfl) (wc_K_o hw_x1_0 hne_x1_0) hf_x1_0_1 ?_
  refine wk_putRk wcf_X1_37 (wg_da dt_X1_init 23 rfl) hk (Nat.le_of_ble_eq_true rfl) (Nat.lt_of_lt_of_le hx1_0_1 (Nat.le_add_right _ _)) ?_
  refine wk_aload_n (wg_da dt_X1_init 24 rfl) rfl ?_
  refine wk_aload_n (wg_da dt_X1_init 25 rfl) rfl ?_
  refine wk_getF wf_X1_38 (wg_da dt_X1_init 26 rfl) (wc_K_o hw_x1 hne_x1) hf_x1_2 ?_
  refine wk_putRk wcf_X1_42 (wg_da dt_X1_init 27 rfl) hk (Nat.le_of_ble_eq_true rfl) (Nat.lt_of_lt_of_le hx1_2 (Nat.le_add_right _ _)) ?_
  exact wk_ret (wg_da dt_X1_init 28 rfl) (by decide) (by decide)
def ob_7 (b : Nat) (x1 x2 : Nat) : wc_X := (9, 0, (((wc_df 7).set 0 (.inr (some x1))).set 1 (.inr (some x2))))
def nw_7 (b : Nat) : wc_W := []
theorem nl_7 {b : Nat} : (nw_7 b).length = 0 := by simp only [nw_7, List.length_append, List.length_cons, List.length_nil, nl_9, nl_2, nl_0, nl_4, nl_3, nl_8, nl_10, nl_6, nl_1, Nat.reduceAdd]
abbrev rm_X7_init : Room := { frames := 1, cells := 0, slots := 0, locals := 12 }
def tb_X7_init : List (Nat × Instr × Nat) := [(0, .aload_n 0, 1), (1, .invokespecial 3, 3), (4, .aload_n 0, 1), (5, .aload_n 1, 1), (6, .putfield 9, 3), (9, .aload_n 0, 1), (10, .aload_n 2, 1), (11, .putfield 15, 3), (14, .return_, 1)]
theorem dt_X7_init : wg_dc cX7_init tb_X7_init := by unfold wg_dc; decide +kernel
set_option maxHeartbeats 40000000 in
set_option maxRecDepth 40000 in
theorem ct_7 (l : Launch) (F : wc_F) (w : wc_W) (k : Nat) (hw : w[k]? = some (9, 0, wc_df 7)) (b : Nat) (hb : w.length = b) (x1 x2 : Nat) (hx1 : x1 < w.length) (hx2 : x2 < w.length) : wc_MG l F yX7_init cX7_init 3 rm_X7_init 0 0 [.ref k, .ref x1, .ref x2] w (wc_K w k (ob_7 b x1 x2) (nw_7 b)) := by
  subst hb
  have hk : k < w.length := (List.getElem?_eq_some_iff.mp hw).1
  refine wc_met [.ref k, .ref x1, .ref x2] (by decide) rfl (Nat.le_of_ble_eq_true rfl) (fun ad0 => ?_)
  have e0 : w = wc_K w k (9, 0, wc_df 7) [] := by
    apply List.ext_getElem?
    intro j
    rw [wc_K, List.append_nil, List.getElem?_set]
    split
    · next h => subst h; first | (rw [if_pos hk]; exact hw) | exact hw
    · rfl
  suffices h9 : wc_G l F "WornWigs$Thought" cX7_init 3 rm_X7_init 0 0 w.length ad0 (wc_K w k (ob_7 w.length x1 x2) (nw_7 w.length)) 0 [.ref k, .ref x1, .ref x2] [] (wc_K w k (9, 0, wc_df 7) []) 0 0 by
    rw [← e0] at h9; exact h9
  refine wk_aload_n (wg_da dt_X7_init 0 rfl) rfl ?_
  refine wk_obj (wg_da dt_X7_init 1 rfl) ⟨wq_3_6, wq_1_28, wq_1_29⟩ (by decide) (by decide) ?_
  refine wk_aload_n (wg_da dt_X7_init 2 rfl) rfl ?_
  refine wk_aload_n (wg_da dt_X7_init 3 rfl) rfl ?_
  refine wk_putRk wcf_X7_9 (wg_da dt_X7_init 4 rfl) hk (Nat.le_of_ble_eq_true rfl) (Nat.lt_of_lt_of_le hx1 (Nat.le_add_right _ _)) ?_
  refine wk_aload_n (wg_da dt_X7_init 5 rfl) rfl ?_
  refine wk_aload_n (wg_da dt_X7_init 6 rfl) rfl ?_
  refine wk_putRk wcf_X7_15 (wg_da dt_X7_init 7 rfl) hk (Nat.le_of_ble_eq_true rfl) (Nat.lt_of_lt_of_le hx2 (Nat.le_add_right _ _)) ?_
  exact wk_ret (wg_da dt_X7_init 8 rfl) (by decide) (by decide)

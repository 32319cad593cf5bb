def ob_5 (b : Nat) : wc_X := (7, 0, ((wc_df 5).set 0 (.inr (some (b + 0)))))
def nw_5 (b : Nat) : wc_W := ((((((((((((([] ++ [(1, 6, (((((([] ++ [.inr (some (b + 1))]) ++ [.inr (some (b + 21))]) ++ [.inr (some (b + 41))]) ++ [.inr (some (b + 61))]) ++ [.inr (some (b + 81))]) ++ [.inr (some (b + 101))]))]) ++ [ob_0 (b + 2)]) ++ nw_0 (b + 2)) ++ [ob_0 (b + 22)]) ++ nw_0 (b + 22)) ++ [ob_0 (b + 42)]) ++ nw_0 (b + 42)) ++ [ob_0 (b + 62)]) ++ nw_0 (b + 62)) ++ [ob_0 (b + 82)]) ++ nw_0 (b + 82)) ++ [ob_0 (b + 102)]) ++ nw_0 (b + 102))
theorem nl_5 {b : Nat} : (nw_5 b).length = 121 := by simp only [nw_5, List.length_append, List.length_cons, List.length_nil, nl_9, nl_2, nl_0, nl_4, nl_3, nl_8, nl_10, Nat.reduceAdd]
abbrev rm_X5_init : Room := { frames := 3, cells := 121, slots := 2184, locals := 52 }
def tb_X5_init : List (Nat × Instr × Nat) := [(0, .aload_n 0, 1), (1, .invokespecial 3, 3), (4, .aload_n 0, 1), (5, .bipush 6, 2), (7, .anewarray 9, 3), (10, .putfield 11, 3), (13, .iconst 0, 1), (14, .istore_n 1, 1), (15, .iload_n 1, 1), (16, .bipush 6, 2), (18, .if_icmp .ge 22, 3), (21, .aload_n 0, 1), (22, .getfield 11, 3), (25, .iload_n 1, 1), (26, .new 9, 3), (29, .dup, 1), (30, .invokespecial 17, 3), (33, .aastore, 1), (34, .iinc 1 1, 3), (37, .goto (-22), 3), (40, .return_, 1)]
theorem dt_X5_init : wg_dc cX5_init tb_X5_init := by unfold wg_dc; decide +kernel
set_option maxHeartbeats 40000000 in
set_option maxRecDepth 40000 in
theorem ct_5 (l : Launch) (F : wc_F) (w : wc_W) (k : Nat) (hw : w[k]? = some (7, 0, wc_df 5)) (b : Nat) (hb : w.length = b) : wc_MG l F yX5_init cX5_init 2 rm_X5_init 121 2184 [.ref k] w (wc_K w k (ob_5 b) (nw_5 b)) := by
  subst hb
  have hk : k < w.length := (List.getElem?_eq_some_iff.mp hw).1
  refine wc_met [.ref k] (by decide) rfl (Nat.le_of_ble_eq_true rfl) (fun ad0 => ?_)
  have e0 : w = wc_K w k (7, 0, wc_df 5) [] := by
    apply List.ext_getElem?
    intro j
    rw [wc_K, List.append_nil, List.getElem?_set]
    split
    · next h => subst h; first | (rw [if_pos hk]; exact hw) | exact hw
    · rfl
  suffices h9 : wc_G l F "WornWigs$Past" cX5_init 2 rm_X5_init 121 2184 w.length ad0 (wc_K w k (ob_5 w.length) (nw_5 w.length)) 0 [.ref k] [] (wc_K w k (7, 0, wc_df 5) []) 0 0 by
    rw [← e0] at h9; exact h9
  refine wk_aload_n (wg_da dt_X5_init 0 rfl) rfl ?_
  refine wk_obj (wg_da dt_X5_init 1 rfl) ⟨wq_2_133, wq_1_28, wq_1_29⟩ (by decide) (by decide) ?_
  refine wk_aload_n (wg_da dt_X5_init 2 rfl) rfl ?_
  refine wk_bipush (6 : Int32) (wg_da dt_X5_init 3 rfl) (by decide) ?_
  refine wk_newqK 6 0 (wg_da dt_X5_init 4 rfl) wq_2_134 (by decide) (by decide) (by decide) (by simp only [List.length_append, List.length_cons, List.length_nil, nl_9, nl_2, nl_0, nl_4, nl_3, nl_8, nl_10, Nat.reduceAdd, Nat.reduceLT]) (by decide) (by decide) (And.intro (Nat.lt_add_right _ hk) trivial) (And.intro (Nat.lt_add_right _ hk) trivial) (Nat.le_add_right _ _) ?_
  refine wk_putRk wcf_X5_11 (wg_da dt_X5_init 5 rfl) hk (Nat.le_of_ble_eq_true rfl) (Nat.add_lt_add_left (by simp only [List.length_append, List.length_cons, List.length_nil, nl_9, nl_2, nl_0, nl_4, nl_3, nl_8, nl_10, Nat.reduceAdd, Nat.reduceLT]) _) ?_
  refine wk_iconst (0 : Int32) (wg_da dt_X5_init 6 rfl) (by decide) ?_
  refine wk_istoreA (wg_da dt_X5_init 7 rfl) (by decide) rfl ?_
  refine wk_iload_n (wg_da dt_X5_init 8 rfl) rfl ?_
  refine wk_bipush (6 : Int32) (wg_da dt_X5_init 9 rfl) (by decide) ?_
  refine wk_geN 40 (wg_da dt_X5_init 10 rfl) (by decide) (by decide) ?_
  refine wk_aload_n (wg_da dt_X5_init 11 rfl) rfl ?_
  refine wk_getF wf_X5_11 (wg_da dt_X5_init 12 rfl) (wc_K_k hk) rfl ?_
  refine wk_iload_n (wg_da dt_X5_init 13 rfl) rfl ?_
  refine wk_newK 1 wc_0 (wg_da dt_X5_init 14 rfl) ⟨wq_2_134, wq_1_37, wq_1_3⟩ (wc_d0) (wc_e0) (by simp only [List.length_append, List.length_cons, List.length_nil, nl_9, nl_2, nl_0, nl_4, nl_3, nl_8, nl_10, Nat.reduceAdd, Nat.reduceLT]) (by decide) (by decide) (And.intro (Nat.lt_add_right _ hk) trivial) (And.intro (Nat.add_lt_add_left (Nat.le_of_ble_eq_true rfl) _) trivial) (Nat.le_add_right _ _) ?_
  refine wk_dup (wg_da dt_X5_init 15 rfl) ?_
  refine wk_callNL 1 2 [] (wg_da dt_X5_init 16 rfl) ⟨List.mem_of_getElem? (i := 6) rfl, wq_1_39⟩ rfl wy_X0_init (by simp only [List.length_append, List.length_cons, List.length_nil, nl_9, nl_2, nl_0, nl_4, nl_3, nl_8, nl_10, Nat.reduceAdd, Nat.reduceLT]) rfl (ct_0 l F _ _ (wc_K_n (wc_last (by simp only [List.length_append, List.length_cons, List.length_nil, nl_9, nl_2, nl_0, nl_4, nl_3, nl_8, nl_10, Nat.reduceAdd, Nat.reduceLT]))) (w.length + 2) (by rw [wc_K_len]; exact congrArg _ (by simp only [List.length_append, List.length_cons, List.length_nil, nl_9, nl_2, nl_0, nl_4, nl_3, nl_8, nl_10, Nat.reduceAdd, Nat.reduceLT])) ) rfl [.ref (w.length + 1), .int (0 : Int32), .ref (w.length + 0)] rfl (Nat.le_of_ble_eq_true rfl) ⟨rfl, rfl, by decide, by decide, by decide, by decide⟩ (And.intro (Nat.lt_add_right _ hk) trivial) (And.intro (Nat.add_lt_add_left (Nat.le_of_ble_eq_true rfl) _) (And.intro (Nat.add_lt_add_left (Nat.le_of_ble_eq_true rfl) _) trivial)) (Nat.le_add_right _ _) ?_
  refine wk_astqA (n := 6) (new' := ((([] ++ [(1, 6, ([] ++ [.inr (some (w.length + 1))]))]) ++ [ob_0 (w.length + 2)]) ++ nw_0 (w.length + 2))) (fs := []) (wg_da dt_X5_init 17 rfl) (by simp only [List.nil_append, List.cons_append, List.append_assoc, List.getElem?_cons_zero]) (wc_mid (by simp only [List.length_append, List.length_cons, List.length_nil, nl_9, nl_2, nl_0, nl_4, nl_3, nl_8, nl_10, Nat.reduceAdd, Nat.reduceLT])) (vp_in_iff.mpr (by decide)) rfl (by simp only [List.nil_append, List.cons_append, List.append_assoc, List.set_cons_zero]) ?_
  refine wk_iinc (y := (1 : Int32)) (wg_da dt_X5_init 18 rfl) rfl (by decide) (by decide) ?_
  refine wk_goto 15 (wg_da dt_X5_init 19 rfl) (by decide) ?_
  refine wk_iload_n (wg_da dt_X5_init 8 rfl) rfl ?_
  refine wk_bipush (6 : Int32) (wg_da dt_X5_init 9 rfl) (by decide) ?_
  refine wk_geN 40 (wg_da dt_X5_init 10 rfl) (by decide) (by decide) ?_
  refine wk_aload_n (wg_da dt_X5_init 11 rfl) rfl ?_
  refine wk_getF wf_X5_11 (wg_da dt_X5_init 12 rfl) (wc_K_k hk) rfl ?_
  refine wk_iload_n (wg_da dt_X5_init 13 rfl) rfl ?_
  refine wk_newK 21 wc_0 (wg_da dt_X5_init 14 rfl) ⟨wq_2_134, wq_1_37, wq_1_3⟩ (wc_d0) (wc_e0) (by simp only [List.length_append, List.length_cons, List.length_nil, nl_9, nl_2, nl_0, nl_4, nl_3, nl_8, nl_10, Nat.reduceAdd, Nat.reduceLT]) (by decide) (by decide) (And.intro (Nat.lt_add_right _ hk) trivial) (And.intro (Nat.add_lt_add_left (Nat.le_of_ble_eq_true rfl) _) trivial) (Nat.le_add_right _ _) ?_
  refine wk_dup (wg_da dt_X5_init 15 rfl) ?_
  refine wk_callNL 21 22 [] (wg_da dt_X5_init 16 rfl) ⟨List.mem_of_getElem? (i := 6) rfl, wq_1_39⟩ rfl wy_X0_init (by simp only [List.length_append, List.length_cons, List.length_nil, nl_9, nl_2, nl_0, nl_4, nl_3, nl_8, nl_10, Nat.reduceAdd, Nat.reduceLT]) rfl (ct_0 l F _ _ (wc_K_n (wc_last (by simp only [List.length_append, List.length_cons, List.length_nil, nl_9, nl_2, nl_0, nl_4, nl_3, nl_8, nl_10, Nat.reduceAdd, Nat.reduceLT]))) (w.length + 22) (by rw [wc_K_len]; exact congrArg _ (by simp only [List.length_append, List.length_cons, List.length_nil, nl_9, nl_2, nl_0, nl_4, nl_3, nl_8, nl_10, Nat.reduceAdd, Nat.reduceLT])) ) rfl [.ref (w.length + 21), .int (1 : Int32), .ref (w.length + 0)] rfl (Nat.le_of_ble_eq_true rfl) ⟨rfl, rfl, by decide, by decide, by decide, by decide⟩ (And.intro (Nat.lt_add_right _ hk) trivial) (And.intro (Nat.add_lt_add_left (Nat.le_of_ble_eq_true rfl) _) (And.intro (Nat.add_lt_add_left (Nat.le_of_ble_eq_true rfl) _) trivial)) (Nat.le_add_right _ _) ?_
  refine wk_astqA (n := 6) (new' := ((((([] ++ [(1, 6, (([] ++ [.inr (some (w.length + 1))]) ++ [.inr (some (w.length + 21))]))]) ++ [ob_0 (w.length + 2)]) ++ nw_0 (w.length + 2)) ++ [ob_0 (w.length + 22)]) ++ nw_0 (w.length + 22))) (fs := ([] ++ [.inr (some (w.length + 1))])) (wg_da dt_X5_init 17 rfl) (by simp only [List.nil_append, List.cons_append, List.append_assoc, List.getElem?_cons_zero]) (wc_mid (by simp only [List.length_append, List.length_cons, List.length_nil, nl_9, nl_2, nl_0, nl_4, nl_3, nl_8, nl_10, Nat.reduceAdd, Nat.reduceLT])) (vp_in_iff.mpr (by decide)) rfl (by simp only [List.nil_append, List.cons_append, List.append_assoc, List.set_cons_zero]) ?_
  refine wk_iinc (y := (2 : Int32)) (wg_da dt_X5_init 18 rfl) rfl (by decide) (by decide) ?_
  refine wk_goto 15 (wg_da dt_X5_init 19 rfl) (by decide) ?_
  refine wk_iload_n (wg_da dt_X5_init 8 rfl) rfl ?_
  refine wk_bipush (6 : Int32) (wg_da dt_X5_init 9 rfl) (by decide) ?_
  refine wk_geN 40 (wg_da dt_X5_init 10 rfl) (by decide) (by decide) ?_
  refine wk_aload_n (wg_da dt_X5_init 11 rfl) rfl ?_
  refine wk_getF wf_X5_11 (wg_da dt_X5_init 12 rfl) (wc_K_k hk) rfl ?_
  refine wk_iload_n (wg_da dt_X5_init 13 rfl) rfl ?_
  refine wk_newK 41 wc_0 (wg_da dt_X5_init 14 rfl) ⟨wq_2_134, wq_1_37, wq_1_3⟩ (wc_d0) (wc_e0) (by simp only [List.length_append, List.length_cons, List.length_nil, nl_9, nl_2, nl_0, nl_4, nl_3, nl_8, nl_10, Nat.reduceAdd, Nat.reduceLT]) (by decide) (by decide) (And.intro (Nat.lt_add_right _ hk) trivial) (And.intro (Nat.add_lt_add_left (Nat.le_of_ble_eq_true rfl) _) trivial) (Nat.le_add_right _ _) ?_
  refine wk_dup (wg_da dt_X5_init 15 rfl) ?_
  refine wk_callNL 41 42 [] (wg_da dt_X5_init 16 rfl) ⟨List.mem_of_getElem? (i := 6) rfl, wq_1_39⟩ rfl wy_X0_init (by simp only [List.length_append, List.length_cons, List.length_nil, nl_9, nl_2, nl_0, nl_4, nl_3, nl_8, nl_10, Nat.reduceAdd, Nat.reduceLT]) rfl (ct_0 l F _ _ (wc_K_n (wc_last (by simp only [List.length_append, List.length_cons, List.length_nil, nl_9, nl_2, nl_0, nl_4, nl_3, nl_8, nl_10, Nat.reduceAdd, Nat.reduceLT]))) (w.length + 42) (by rw [wc_K_len]; exact congrArg _ (by simp only [List.length_append, List.length_cons, List.length_nil, nl_9, nl_2, nl_0, nl_4, nl_3, nl_8, nl_10, Nat.reduceAdd, Nat.reduceLT])) ) rfl [.ref (w.length + 41), .int (2 : Int32), .ref (w.length + 0)] rfl (Nat.le_of_ble_eq_true rfl) ⟨rfl, rfl, by decide, by decide, by decide, by decide⟩ (And.intro (Nat.lt_add_right _ hk) trivial) (And.intro (Nat.add_lt_add_left (Nat.le_of_ble_eq_true rfl) _) (And.intro (Nat.add_lt_add_left (Nat.le_of_ble_eq_true rfl) _) trivial)) (Nat.le_add_right _ _) ?_
  refine wk_astqA (n := 6) (new' := ((((((([] ++ [(1, 6, ((([] ++ [.inr (some (w.length + 1))]) ++ [.inr (some (w.length + 21))]) ++ [.inr (some (w.length + 41))]))]) ++ [ob_0 (w.length + 2)]) ++ nw_0 (w.length + 2)) ++ [ob_0 (w.length + 22)]) ++ nw_0 (w.length + 22)) ++ [ob_0 (w.length + 42)]) ++ nw_0 (w.length + 42))) (fs := (([] ++ [.inr (some (w.length + 1))]) ++ [.inr (some (w.length + 21))])) (wg_da dt_X5_init 17 rfl) (by simp only [List.nil_append, List.cons_append, List.append_assoc, List.getElem?_cons_zero]) (wc_mid (by simp only [List.length_append, List.length_cons, List.length_nil, nl_9, nl_2, nl_0, nl_4, nl_3, nl_8, nl_10, Nat.reduceAdd, Nat.reduceLT])) (vp_in_iff.mpr (by decide)) rfl (by simp only [List.nil_append, List.cons_append, List.append_assoc, List.set_cons_zero]) ?_
  refine wk_iinc (y := (3 : Int32)) (wg_da dt_X5_init 18 rfl) rfl (by decide) (by decide) ?_
  refine wk_goto 15 (wg_da dt_X5_init 19 rfl) (by decide) ?_
  refine wk_iload_n (wg_da dt_X5_init 8 rfl) rfl ?_
  refine wk_bipush (6 : Int32) (wg_da dt_X5_init 9 rfl) (by decide) ?_
  refine wk_geN 40 (wg_da dt_X5_init 10 rfl) (by decide) (by decide) ?_
  refine wk_aload_n (wg_da dt_X5_init 11 rfl) rfl ?_
  refine wk_getF wf_X5_11 (wg_da dt_X5_init 12 rfl) (wc_K_k hk) rfl ?_
  refine wk_iload_n (wg_da dt_X5_init 13 rfl) rfl ?_
  refine wk_newK 61 wc_0 (wg_da dt_X5_init 14 rfl) ⟨wq_2_134, wq_1_37, wq_1_3⟩ (wc_d0) (wc_e0) (by simp only [List.length_append, List.length_cons, List.length_nil, nl_9, nl_2, nl_0, nl_4, nl_3, nl_8, nl_10, Nat.reduceAdd, Nat.reduceLT]) (by decide) (by decide) (And.intro (Nat.lt_add_right _ hk) trivial) (And.intro (Nat.add_lt_add_left (Nat.le_of_ble_eq_true rfl) _) trivial) (Nat.le_add_right _ _) ?_
  refine wk_dup (wg_da dt_X5_init 15 rfl) ?_
  refine wk_callNL 61 62 [] (wg_da dt_X5_init 16 rfl) ⟨List.mem_of_getElem? (i := 6) rfl, wq_1_39⟩ rfl wy_X0_init (by simp only [List.length_append, List.length_cons, List.length_nil, nl_9, nl_2, nl_0, nl_4, nl_3, nl_8, nl_10, Nat.reduceAdd, Nat.reduceLT]) rfl (ct_0 l F _ _ (wc_K_n (wc_last (by simp only [List.length_append, List.length_cons, List.length_nil, nl_9, nl_2, nl_0, nl_4, nl_3, nl_8, nl_10, Nat.reduceAdd, Nat.reduceLT]))) (w.length + 62) (by rw [wc_K_len]; exact congrArg _ (by simp only [List.length_append, List.length_cons, List.length_nil, nl_9, nl_2, nl_0, nl_4, nl_3, nl_8, nl_10, Nat.reduceAdd, Nat.reduceLT])) ) rfl [.ref (w.length + 61), .int (3 : Int32), .ref (w.length + 0)] rfl (Nat.le_of_ble_eq_true rfl) ⟨rfl, rfl, by decide, by decide, by decide, by decide⟩ (And.intro (Nat.lt_add_right _ hk) trivial) (And.intro (Nat.add_lt_add_left (Nat.le_of_ble_eq_true rfl) _) (And.intro (Nat.add_lt_add_left (Nat.le_of_ble_eq_true rfl) _) trivial)) (Nat.le_add_right _ _) ?_
  refine wk_astqA (n := 6) (new' := ((((((((([] ++ [(1, 6, (((([] ++ [.inr (some (w.length + 1))]) ++ [.inr (some (w.length + 21))]) ++ [.inr (some (w.length + 41))]) ++ [.inr (some (w.length + 61))]))]) ++ [ob_0 (w.length + 2)]) ++ nw_0 (w.length + 2)) ++ [ob_0 (w.length + 22)]) ++ nw_0 (w.length + 22)) ++ [ob_0 (w.length + 42)]) ++ nw_0 (w.length + 42)) ++ [ob_0 (w.length + 62)]) ++ nw_0 (w.length + 62))) (fs := ((([] ++ [.inr (some (w.length + 1))]) ++ [.inr (some (w.length + 21))]) ++ [.inr (some (w.length + 41))])) (wg_da dt_X5_init 17 rfl) (by simp only [List.nil_append, List.cons_append, List.append_assoc, List.getElem?_cons_zero]) (wc_mid (by simp only [List.length_append, List.length_cons, List.length_nil, nl_9, nl_2, nl_0, nl_4, nl_3, nl_8, nl_10, Nat.reduceAdd, Nat.reduceLT])) (vp_in_iff.mpr (by decide)) rfl (by simp only [List.nil_append, List.cons_append, List.append_assoc, List.set_cons_zero]) ?_
  refine wk_iinc (y := (4 : Int32)) (wg_da dt_X5_init 18 rfl) rfl (by decide) (by decide) ?_
  refine wk_goto 15 (wg_da dt_X5_init 19 rfl) (by decide) ?_
  refine wk_iload_n (wg_da dt_X5_init 8 rfl) rfl ?_
  refine wk_bipush (6 : Int32) (wg_da dt_X5_init 9 rfl) (by decide) ?_
  refine wk_geN 40 (wg_da dt_X5_init 10 rfl) (by decide) (by decide) ?_
  refine wk_aload_n (wg_da dt_X5_init 11 rfl) rfl ?_
  refine wk_getF wf_X5_11 (wg_da dt_X5_init 12 rfl) (wc_K_k hk) rfl ?_
  refine wk_iload_n (wg_da dt_X5_init 13 rfl) rfl ?_
  refine wk_newK 81 wc_0 (wg_da dt_X5_init 14 rfl) ⟨wq_2_134, wq_1_37, wq_1_3⟩ (wc_d0) (wc_e0) (by simp only [List.length_append, List.length_cons, List.length_nil, nl_9, nl_2, nl_0, nl_4, nl_3, nl_8, nl_10, Nat.reduceAdd, Nat.reduceLT]) (by decide) (by decide) (And.intro (Nat.lt_add_right _ hk) trivial) (And.intro (Nat.add_lt_add_left (Nat.le_of_ble_eq_true rfl) _) trivial) (Nat.le_add_right _ _) ?_
  refine wk_dup (wg_da dt_X5_init 15 rfl) ?_
  refine wk_callNL 81 82 [] (wg_da dt_X5_init 16 rfl) ⟨List.mem_of_getElem? (i := 6) rfl, wq_1_39⟩ rfl wy_X0_init (by simp only [List.length_append, List.length_cons, List.length_nil, nl_9, nl_2, nl_0, nl_4, nl_3, nl_8, nl_10, Nat.reduceAdd, Nat.reduceLT]) rfl (ct_0 l F _ _ (wc_K_n (wc_last (by simp only [List.length_append, List.length_cons, List.length_nil, nl_9, nl_2, nl_0, nl_4, nl_3, nl_8, nl_10, Nat.reduceAdd, Nat.reduceLT]))) (w.length + 82) (by rw [wc_K_len]; exact congrArg _ (by simp only [List.length_append, List.length_cons, List.length_nil, nl_9, nl_2, nl_0, nl_4, nl_3, nl_8, nl_10, Nat.reduceAdd, Nat.reduceLT])) ) rfl [.ref (w.length + 81), .int (4 : Int32), .ref (w.length + 0)] rfl (Nat.le_of_ble_eq_true rfl) ⟨rfl, rfl, by decide, by decide, by decide, by decide⟩ (And.intro (Nat.lt_add_right _ hk) trivial) (And.intro (Nat.add_lt_add_left (Nat.le_of_ble_eq_true rfl) _) (And.intro (Nat.add_lt_add_left (Nat.le_of_ble_eq_true rfl) _) trivial)) (Nat.le_add_right _ _) ?_
  refine wk_astqA (n := 6) (new' := ((((((((((([] ++ [(1, 6, ((((([] ++ [.inr (some (w.length + 1))]) ++ [.inr (some (w.length + 21))]) ++ [.inr (some (w.length + 41))]) ++ [.inr (some (w.length + 61))]) ++ [.inr (some (w.length + 81))]))]) ++ [ob_0 (w.length + 2)]) ++ nw_0 (w.length + 2)) ++ [ob_0 (w.length + 22)]) ++ nw_0 (w.length + 22)) ++ [ob_0 (w.length + 42)]) ++ nw_0 (w.length + 42)) ++ [ob_0 (w.length + 62)]) ++ nw_0 (w.length + 62)) ++ [ob_0 (w.length + 82)]) ++ nw_0 (w.length + 82))) (fs := (((([] ++ [.inr (some (w.length + 1))]) ++ [.inr (some (w.length + 21))]) ++ [.inr (some (w.length + 41))]) ++ [.inr (some (w.length + 61))])) (wg_da dt_X5_init 17 rfl) (by simp only [List.nil_append, List.cons_append, List.append_assoc, List.getElem?_cons_zero]) (wc_mid (by simp only [List.length_append, List.length_cons, List.length_nil, nl_9, nl_2, nl_0, nl_4, nl_3, nl_8, nl_10, Nat.reduceAdd, Nat.reduceLT])) (vp_in_iff.mpr (by decide)) rfl (by simp only [List.nil_append, List.cons_append, List.append_assoc, List.set_cons_zero]) ?_
  refine wk_iinc (y := (5 : Int32)) (wg_da dt_X5_init 18 rfl) rfl (by decide) (by decide) ?_
  refine wk_goto 15 (wg_da dt_X5_init 19 rfl) (by decide) ?_
  refine wk_iload_n (wg_da dt_X5_init 8 rfl) rfl ?_
  refine wk_bipush (6 : Int32) (wg_da dt_X5_init 9 rfl) (by decide) ?_
  refine wk_geN 40 (wg_da dt_X5_init 10 rfl) (by decide) (by decide) ?_
  refine wk_aload_n (wg_da dt_X5_init 11 rfl) rfl ?_
  refine wk_getF wf_X5_11 (wg_da dt_X5_init 12 rfl) (wc_K_k hk) rfl ?_
  refine wk_iload_n (wg_da dt_X5_init 13 rfl) rfl ?_
  refine wk_newK 101 wc_0 (wg_da dt_X5_init 14 rfl) ⟨wq_2_134, wq_1_37, wq_1_3⟩ (wc_d0) (wc_e0) (by simp only [List.length_append, List.length_cons, List.length_nil, nl_9, nl_2, nl_0, nl_4, nl_3, nl_8, nl_10, Nat.reduceAdd, Nat.reduceLT]) (by decide) (by decide) (And.intro (Nat.lt_add_right _ hk) trivial) (And.intro (Nat.add_lt_add_left (Nat.le_of_ble_eq_true rfl) _) trivial) (Nat.le_add_right _ _) ?_
  refine wk_dup (wg_da dt_X5_init 15 rfl) ?_
  refine wk_callNL 101 102 [] (wg_da dt_X5_init 16 rfl) ⟨List.mem_of_getElem? (i := 6) rfl, wq_1_39⟩ rfl wy_X0_init (by simp only [List.length_append, List.length_cons, List.length_nil, nl_9, nl_2, nl_0, nl_4, nl_3, nl_8, nl_10, Nat.reduceAdd, Nat.reduceLT]) rfl (ct_0 l F _ _ (wc_K_n (wc_last (by simp only [List.length_append, List.length_cons, List.length_nil, nl_9, nl_2, nl_0, nl_4, nl_3, nl_8, nl_10, Nat.reduceAdd, Nat.reduceLT]))) (w.length + 102) (by rw [wc_K_len]; exact congrArg _ (by simp only [List.length_append, List.length_cons, List.length_nil, nl_9, nl_2, nl_0, nl_4, nl_3, nl_8, nl_10, Nat.reduceAdd, Nat.reduceLT])) ) rfl [.ref (w.length + 101), .int (5 : Int32), .ref (w.length + 0)] rfl (Nat.le_of_ble_eq_true rfl) ⟨rfl, rfl, by decide, by decide, by decide, by decide⟩ (And.intro (Nat.lt_add_right _ hk) trivial) (And.intro (Nat.add_lt_add_left (Nat.le_of_ble_eq_true rfl) _) (And.intro (Nat.add_lt_add_left (Nat.le_of_ble_eq_true rfl) _) trivial)) (Nat.le_add_right _ _) ?_
  refine wk_astqA (n := 6) (new' := ((((((((((((([] ++ [(1, 6, (((((([] ++ [.inr (some (w.length + 1))]) ++ [.inr (some (w.length + 21))]) ++ [.inr (some (w.length + 41))]) ++ [.inr (some (w.length + 61))]) ++ [.inr (some (w.length + 81))]) ++ [.inr (some (w.length + 101))]))]) ++ [ob_0 (w.length + 2)]) ++ nw_0 (w.length + 2)) ++ [ob_0 (w.length + 22)]) ++ nw_0 (w.length + 22)) ++ [ob_0 (w.length + 42)]) ++ nw_0 (w.length + 42)) ++ [ob_0 (w.length + 62)]) ++ nw_0 (w.length + 62)) ++ [ob_0 (w.length + 82)]) ++ nw_0 (w.length + 82)) ++ [ob_0 (w.length + 102)]) ++ nw_0 (w.length + 102))) (fs := ((((([] ++ [.inr (some (w.length + 1))]) ++ [.inr (some (w.length + 21))]) ++ [.inr (some (w.length + 41))]) ++ [.inr (some (w.length + 61))]) ++ [.inr (some (w.length + 81))])) (wg_da dt_X5_init 17 rfl) (by simp only [List.nil_append, List.cons_append, List.append_assoc, List.getElem?_cons_zero]) (wc_mid (by simp only [List.length_append, List.length_cons, List.length_nil, nl_9, nl_2, nl_0, nl_4, nl_3, nl_8, nl_10, Nat.reduceAdd, Nat.reduceLT])) (vp_in_iff.mpr (by decide)) rfl (by simp only [List.nil_append, List.cons_append, List.append_assoc, List.set_cons_zero]) ?_
  refine wk_iinc (y := (6 : Int32)) (wg_da dt_X5_init 18 rfl) rfl (by decide) (by decide) ?_
  refine wk_goto 15 (wg_da dt_X5_init 19 rfl) (by decide) ?_
  refine wk_iload_n (wg_da dt_X5_init 8 rfl) rfl ?_
  refine wk_bipush (6 : Int32) (wg_da dt_X5_init 9 rfl) (by decide) ?_
  refine wk_geY 40 (wg_da dt_X5_init 10 rfl) (by decide) (by decide) ?_
  exact wk_ret (wg_da dt_X5_init 20 rfl) (by decide) (by decide)

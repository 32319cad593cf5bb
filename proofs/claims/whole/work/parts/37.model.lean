def wv_w : List wc_V := [.inl 32, .inl 99, .inl 111, .inl 117, .inl 110, .inl 116, .inl 115, .inl 32, .inl 109, .inl 111, .inl 116, .inl 104, .inl 32, .inl 100, .inl 105, .inl 101, .inl 115, .inl 32, .inl 119, .inl 104, .inl 101, .inl 110, .inl 32, .inl 111, .inl 114, .inl 32, .inl 97, .inl 110, .inl 100, .inl 32, .inl 110, .inl 111, .inl 116, .inl 32, .inl 97, .inl 103, .inl 101, .inl 32, .inl 109, .inl 105, .inl 110, .inl 100, .inl 32, .inl 99, .inl 111, .inl 108, .inl 111, .inl 117, .inl 114, .inl 32, .inl 104, .inl 97, .inl 105, .inl 114, .inl 32, .inl 105, .inl 116, .inl 99, .inl 104, .inl 32, .inl 108, .inl 101, .inl 110, .inl 116, .inl 32, .inl 99, .inl 97, .inl 117, .inl 115, .inl 101, .inl 32, .inl 119, .inl 101, .inl 105, .inl 103, .inl 104, .inl 116, .inl 32, .inl 116, .inl 114, .inl 105, .inl 101, .inl 100, .inl 32, .inl 121, .inl 101, .inl 97, .inl 114, .inl 32, .inl 105, .inl 110, .inl 32, .inl 99, .inl 97, .inl 115, .inl 101, .inl 32, .inl 98, .inl 101, .inl 102, .inl 111, .inl 114, .inl 101, .inl 32, .inl 119, .inl 105, .inl 103, .inl 32, .inl 111, .inl 110, .inl 32, .inl 111, .inl 102, .inl 102, .inl 32, .inl 99, .inl 111, .inl 109, .inl 98, .inl 32, .inl 98, .inl 114, .inl 117, .inl 115, .inl 104, .inl 32, .inl 111, .inl 102, .inl 32]
theorem wv_ni : wc_ni wv_w = true := by decide +kernel
section WM
variable {l : Launch} {F : wc_F} {own : String} {cc : ByteArray} {nL : Nat} {R : Room} {mc ms n0 : Nat} {ad0 : Nat → Nat} {w' : wc_W} {pc : Nat} {L st : List Value} {w : wc_W} {cells slots : Nat}
theorem wk_iastT {i k : Nat} {o : wc_X} {pre : wc_W} {j : Nat} {jv v : Int32} (hi : pre.length = i) (hd : decode cc pc = .ok (.iastore, 1)) (hj : j < 129) (hjv : jv = nI j) (hv : wv_w[j]? = some (.inl v)) (k1 : wc_G l F own cc nL R mc ms n0 ad0 w' (pc + 1) L st (wc_K w k o (pre ++ [(0, 129, wv_w.take (j + 1))])) cells slots) : wc_G l F own cc nL R mc ms n0 ad0 w' pc L (.int v :: .int jv :: .ref (w.length + i) :: st) (wc_K w k o (pre ++ [(0, 129, wv_w.take j)])) cells slots := by
  subst hjv
  refine wk_iastL hi hd (vp_in_nI hj (by omega)) ?_ ?_ ?_
  · rw [nI_clamp (by omega), List.length_take]
    have : wv_w.length = 129 := by decide +kernel
    omega
  · exact List.all_eq_true.mpr (fun x hx => List.all_eq_true.mp wv_ni x (List.mem_of_mem_take hx))
  · rw [List.take_add_one, hv] at k1
    exact k1
end WM
def ob_12 (b : Nat) : wc_X := (14, 0, List.set (List.set (List.set (List.set (List.set (List.set (List.set (List.set (List.set (List.set (List.set (List.set (List.set (List.set (List.set (List.set (List.set (List.set (List.set (List.set (List.set (List.set (List.set (List.set (List.set (List.set (List.set (List.set (List.set (List.set (List.set (List.set (List.set (List.set (wc_df 12) 1 (Sum.inr (some (b + 0)))) 2 (Sum.inr (some (b + 1)))) 4 (Sum.inr (some (b + 2)))) 9 (Sum.inr (some (b + 3)))) 10 (Sum.inr (some (b + 4)))) 11 (Sum.inr (some (b + 5)))) 12 (Sum.inr (some (b + 6)))) 13 (Sum.inr (some (b + 7)))) 14 (Sum.inr (some (b + 8)))) 20 (Sum.inr (some (b + 9)))) 21 (Sum.inr (some (b + 10)))) 22 (Sum.inr (some (b + 11)))) 23 (Sum.inr (some (b + 12)))) 24 (Sum.inr (some (b + 13)))) 25 (Sum.inr (some (b + 14)))) 26 (Sum.inr (some (b + 15)))) 27 (Sum.inr (some (b + 16)))) 31 (Sum.inr (some (b + 17)))) 36 (Sum.inl (-1 : Int32))) 38 (Sum.inr (some (b + 18)))) 40 (Sum.inr (some (b + 19)))) 42 (Sum.inr (some (b + 20)))) 43 (Sum.inr (some (b + 21)))) 44 (Sum.inr (some (b + 22)))) 46 (Sum.inr (some (b + 23)))) 47 (Sum.inr (some (b + 24)))) 48 (Sum.inr (some (b + 25)))) 50 (Sum.inr (some (b + 26)))) 51 (Sum.inr (some (b + 27)))) 52 (Sum.inr (some (b + 28)))) 54 (Sum.inr (some (b + 29)))) 55 (Sum.inr (some (b + 30)))) 56 (Sum.inr (some (b + 31)))) 60 (Sum.inr (some (b + 32))))
def nwa_0 : wc_W := []
def nwa_1 : wc_W := nwa_0 ++ [((0, 295, []) : wc_X)]
def nwa_2 : wc_W := nwa_1 ++ [((0, 1770, []) : wc_X)]
def nwa_3 : wc_W := nwa_2 ++ [((0, 295, []) : wc_X)]
def nwa_4 : wc_W := nwa_3 ++ [((0, 8, []) : wc_X)]
def nwa_5 : wc_W := nwa_4 ++ [((0, 10, []) : wc_X)]
def nwa_6 : wc_W := nwa_5 ++ [((0, 14, []) : wc_X)]
def nwa_7 : wc_W := nwa_6 ++ [((0, 14, []) : wc_X)]
def nwa_8 : wc_W := nwa_7 ++ [((0, 600, []) : wc_X)]
def nwa_9 : wc_W := nwa_8 ++ [((0, 400, []) : wc_X)]
def nwa_10 : wc_W := nwa_9 ++ [((0, 129, wv_w.take 129) : wc_X)]
def nwa_11 : wc_W := nwa_10 ++ [((0, 2, []) : wc_X)]
def nwa_12 : wc_W := nwa_11 ++ [((0, 48, []) : wc_X)]
def nwa_13 : wc_W := nwa_12 ++ [((0, 48, []) : wc_X)]
def nwa_14 : wc_W := nwa_13 ++ [((0, 48, []) : wc_X)]
def nwa_15 : wc_W := nwa_14 ++ [((0, 48, []) : wc_X)]
def nwa_16 : wc_W := nwa_15 ++ [((0, 1200, []) : wc_X)]
def nwa_17 : wc_W := nwa_16 ++ [((0, 1200, []) : wc_X)]
def nwa_18 : wc_W := nwa_17 ++ [((0, 40, []) : wc_X)]
def nwa_19 : wc_W := nwa_18 ++ [((0, 96, []) : wc_X)]
def nwa_20 : wc_W := nwa_19 ++ [((0, 128, []) : wc_X)]
def nwa_21 : wc_W := nwa_20 ++ [((0, 16, []) : wc_X)]
def nwa_22 : wc_W := nwa_21 ++ [((0, 10, []) : wc_X)]
def nwa_23 : wc_W := nwa_22 ++ [((0, 420, []) : wc_X)]
def nwa_24 : wc_W := nwa_23 ++ [((0, 8, []) : wc_X)]
def nwa_25 : wc_W := nwa_24 ++ [((0, 8, []) : wc_X)]
def nwa_26 : wc_W := nwa_25 ++ [((0, 8, []) : wc_X)]
def nwa_27 : wc_W := nwa_26 ++ [((0, 14, []) : wc_X)]
def nwa_28 : wc_W := nwa_27 ++ [((0, 14, []) : wc_X)]
def nwa_29 : wc_W := nwa_28 ++ [((0, 20, []) : wc_X)]
def nwa_30 : wc_W := nwa_29 ++ [((0, 7, []) : wc_X)]
def nwa_31 : wc_W := nwa_30 ++ [((0, 7, []) : wc_X)]
def nwa_32 : wc_W := nwa_31 ++ [((0, 128, []) : wc_X)]
def nwa_33 : wc_W := nwa_32 ++ [((0, 2300, []) : wc_X)]
def nw_12 (_ : Nat) : wc_W := nwa_33
theorem nl_12 {b : Nat} : (nw_12 b).length = 33 := by show nwa_33.length = 33; decide +kernel
abbrev rm_X12_init : Room := { frames := 1, cells := 33, slots := 9353, locals := 12 }
set_option maxHeartbeats 40000000 in
set_option maxRecDepth 40000 in
theorem ct_12 (l : Launch) (F : wc_F) (w : wc_W) (k : Nat) (hw : w[k]? = some (14, 0, wc_df 12)) (b : Nat) (hb : w.length = b) : wc_MG l F yX12_init cX12_init 1 rm_X12_init 33 9353 [.ref k] w (wc_K w k (ob_12 b) (nw_12 b)) := by
  subst hb
  have hk : k < w.length := (List.getElem?_eq_some_iff.mp hw).1
  refine wc_met [.ref k] (by decide) rfl (Nat.le_of_ble_eq_true rfl) (fun ad0 => ?_)
  have e0 : w = wc_K w k (14, 0, wc_df 12) [] := by
    apply List.ext_getElem?
    intro j
    rw [wc_K, List.append_nil, List.getElem?_set]
    split
    · next h => subst h; first | (rw [if_pos hk]; exact hw) | exact hw
    · rfl
  suffices h9 : wc_G l F "WornWigsModel" cX12_init 1 rm_X12_init 33 9353 w.length ad0 (wc_K w k (ob_12 w.length) (nw_12 w.length)) 0 [.ref k] [] (wc_K w k (14, 0, wc_df 12) []) 0 0 by
    rw [← e0] at h9; exact h9
  refine wk_aload_n (wg_da dt_X12_init_0 0 rfl) rfl ?_
  refine wk_obj (wg_da dt_X12_init_0 1 rfl) ⟨wq_6_125, wq_1_28, wq_1_29⟩ (by decide) (by decide) ?_
  refine wk_aload_n (wg_da dt_X12_init_0 2 rfl) rfl ?_
  refine wk_sipush (295 : Int32) (wg_da dt_X12_init_0 3 rfl) (by decide) ?_
  refine wk_newaK 295 0 (wg_da dt_X12_init_0 4 rfl) wq_arr (by decide) (by decide) (by decide) (by simp only [List.length_append, List.length_cons, List.length_nil, nl_9, nl_2, nl_0, nl_4, nl_3, nl_8, nl_10, nl_5, nl_6, nl_1, nl_7, Nat.reduceAdd, Nat.reduceLT]) (by decide) (by decide) (And.intro (Nat.lt_add_right _ hk) trivial) (And.intro (Nat.lt_add_right _ hk) trivial) (Nat.le_add_right _ _) ?_
  refine wk_putRk wcf_X12_7 (wg_da dt_X12_init_0 5 rfl) hk (by first | (simp only [List.length_set]; decide) | decide) (Nat.add_lt_add_left (by simp only [List.length_append, List.length_cons, List.length_nil, nl_9, nl_2, nl_0, nl_4, nl_3, nl_8, nl_10, nl_5, nl_6, nl_1, nl_7, Nat.reduceAdd, Nat.reduceLT]) _) ?_
  refine wk_aload_n (wg_da dt_X12_init_0 6 rfl) rfl ?_
  refine wk_sipush (1770 : Int32) (wg_da dt_X12_init_0 7 rfl) (by decide) ?_
  refine wk_newaK 1770 1 (wg_da dt_X12_init_0 8 rfl) wq_arr (by decide) (by decide) (by decide) (by simp only [List.length_append, List.length_cons, List.length_nil, nl_9, nl_2, nl_0, nl_4, nl_3, nl_8, nl_10, nl_5, nl_6, nl_1, nl_7, Nat.reduceAdd, Nat.reduceLT]) (by decide) (by decide) (And.intro (Nat.lt_add_right _ hk) trivial) (And.intro (Nat.lt_add_right _ hk) trivial) (Nat.le_add_right _ _) ?_
  refine wk_putRk wcf_X12_13 (wg_da dt_X12_init_0 9 rfl) hk (by first | (simp only [List.length_set]; decide) | decide) (Nat.add_lt_add_left (by simp only [List.length_append, List.length_cons, List.length_nil, nl_9, nl_2, nl_0, nl_4, nl_3, nl_8, nl_10, nl_5, nl_6, nl_1, nl_7, Nat.reduceAdd, Nat.reduceLT]) _) ?_
  refine wk_aload_n (wg_da dt_X12_init_0 10 rfl) rfl ?_
  refine wk_sipush (295 : Int32) (wg_da dt_X12_init_0 11 rfl) (by decide) ?_
  refine wk_newaK 295 2 (wg_da dt_X12_init_0 12 rfl) wq_arr (by decide) (by decide) (by decide) (by simp only [List.length_append, List.length_cons, List.length_nil, nl_9, nl_2, nl_0, nl_4, nl_3, nl_8, nl_10, nl_5, nl_6, nl_1, nl_7, Nat.reduceAdd, Nat.reduceLT]) (by decide) (by decide) (And.intro (Nat.lt_add_right _ hk) trivial) (And.intro (Nat.lt_add_right _ hk) trivial) (Nat.le_add_right _ _) ?_
  refine wk_putRk wcf_X12_16 (wg_da dt_X12_init_0 13 rfl) hk (by first | (simp only [List.length_set]; decide) | decide) (Nat.add_lt_add_left (by simp only [List.length_append, List.length_cons, List.length_nil, nl_9, nl_2, nl_0, nl_4, nl_3, nl_8, nl_10, nl_5, nl_6, nl_1, nl_7, Nat.reduceAdd, Nat.reduceLT]) _) ?_
  refine wk_aload_n (wg_da dt_X12_init_0 14 rfl) rfl ?_
  refine wk_bipush (8 : Int32) (wg_da dt_X12_init_0 15 rfl) (by decide) ?_
  refine wk_newaK 8 3 (wg_da dt_X12_init_0 16 rfl) wq_arr (by decide) (by decide) (by decide) (by simp only [List.length_append, List.length_cons, List.length_nil, nl_9, nl_2, nl_0, nl_4, nl_3, nl_8, nl_10, nl_5, nl_6, nl_1, nl_7, Nat.reduceAdd, Nat.reduceLT]) (by decide) (by decide) (And.intro (Nat.lt_add_right _ hk) trivial) (And.intro (Nat.lt_add_right _ hk) trivial) (Nat.le_add_right _ _) ?_
  refine wk_putRk wcf_X12_19 (wg_da dt_X12_init_0 17 rfl) hk (by first | (simp only [List.length_set]; decide) | decide) (Nat.add_lt_add_left (by simp only [List.length_append, List.length_cons, List.length_nil, nl_9, nl_2, nl_0, nl_4, nl_3, nl_8, nl_10, nl_5, nl_6, nl_1, nl_7, Nat.reduceAdd, Nat.reduceLT]) _) ?_
  refine wk_aload_n (wg_da dt_X12_init_0 18 rfl) rfl ?_
  refine wk_bipush (10 : Int32) (wg_da dt_X12_init_0 19 rfl) (by decide) ?_
  refine wk_newaK 10 4 (wg_da dt_X12_init_0 20 rfl) wq_arr (by decide) (by decide) (by decide) (by simp only [List.length_append, List.length_cons, List.length_nil, nl_9, nl_2, nl_0, nl_4, nl_3, nl_8, nl_10, nl_5, nl_6, nl_1, nl_7, Nat.reduceAdd, Nat.reduceLT]) (by decide) (by decide) (And.intro (Nat.lt_add_right _ hk) trivial) (And.intro (Nat.lt_add_right _ hk) trivial) (Nat.le_add_right _ _) ?_
  refine wk_putRk wcf_X12_22 (wg_da dt_X12_init_0 21 rfl) hk (by first | (simp only [List.length_set]; decide) | decide) (Nat.add_lt_add_left (by simp only [List.length_append, List.length_cons, List.length_nil, nl_9, nl_2, nl_0, nl_4, nl_3, nl_8, nl_10, nl_5, nl_6, nl_1, nl_7, Nat.reduceAdd, Nat.reduceLT]) _) ?_
  refine wk_aload_n (wg_da dt_X12_init_0 22 rfl) rfl ?_
  refine wk_bipush (14 : Int32) (wg_da dt_X12_init_0 23 rfl) (by decide) ?_
  refine wk_newaK 14 5 (wg_da dt_X12_init_0 24 rfl) wq_arr (by decide) (by decide) (by decide) (by simp only [List.length_append, List.length_cons, List.length_nil, nl_9, nl_2, nl_0, nl_4, nl_3, nl_8, nl_10, nl_5, nl_6, nl_1, nl_7, Nat.reduceAdd, Nat.reduceLT]) (by decide) (by decide) (And.intro (Nat.lt_add_right _ hk) trivial) (And.intro (Nat.lt_add_right _ hk) trivial) (Nat.le_add_right _ _) ?_
  refine wk_putRk wcf_X12_25 (wg_da dt_X12_init_0 25 rfl) hk (by first | (simp only [List.length_set]; decide) | decide) (Nat.add_lt_add_left (by simp only [List.length_append, List.length_cons, List.length_nil, nl_9, nl_2, nl_0, nl_4, nl_3, nl_8, nl_10, nl_5, nl_6, nl_1, nl_7, Nat.reduceAdd, Nat.reduceLT]) _) ?_
  refine wk_aload_n (wg_da dt_X12_init_0 26 rfl) rfl ?_
  refine wk_bipush (14 : Int32) (wg_da dt_X12_init_0 27 rfl) (by decide) ?_
  refine wk_newaK 14 6 (wg_da dt_X12_init_0 28 rfl) wq_arr (by decide) (by decide) (by decide) (by simp only [List.length_append, List.length_cons, List.length_nil, nl_9, nl_2, nl_0, nl_4, nl_3, nl_8, nl_10, nl_5, nl_6, nl_1, nl_7, Nat.reduceAdd, Nat.reduceLT]) (by decide) (by decide) (And.intro (Nat.lt_add_right _ hk) trivial) (And.intro (Nat.lt_add_right _ hk) trivial) (Nat.le_add_right _ _) ?_
  refine wk_putRk wcf_X12_28 (wg_da dt_X12_init_0 29 rfl) hk (by first | (simp only [List.length_set]; decide) | decide) (Nat.add_lt_add_left (by simp only [List.length_append, List.length_cons, List.length_nil, nl_9, nl_2, nl_0, nl_4, nl_3, nl_8, nl_10, nl_5, nl_6, nl_1, nl_7, Nat.reduceAdd, Nat.reduceLT]) _) ?_
  refine wk_aload_n (wg_da dt_X12_init_0 30 rfl) rfl ?_
  refine wk_sipush (600 : Int32) (wg_da dt_X12_init_0 31 rfl) (by decide) ?_
  refine wk_newaK 600 7 (wg_da dt_X12_init_0 32 rfl) wq_arr (by decide) (by decide) (by decide) (by simp only [List.length_append, List.length_cons, List.length_nil, nl_9, nl_2, nl_0, nl_4, nl_3, nl_8, nl_10, nl_5, nl_6, nl_1, nl_7, Nat.reduceAdd, Nat.reduceLT]) (by decide) (by decide) (And.intro (Nat.lt_add_right _ hk) trivial) (And.intro (Nat.lt_add_right _ hk) trivial) (Nat.le_add_right _ _) ?_
  refine wk_putRk wcf_X12_31 (wg_da dt_X12_init_0 33 rfl) hk (by first | (simp only [List.length_set]; decide) | decide) (Nat.add_lt_add_left (by simp only [List.length_append, List.length_cons, List.length_nil, nl_9, nl_2, nl_0, nl_4, nl_3, nl_8, nl_10, nl_5, nl_6, nl_1, nl_7, Nat.reduceAdd, Nat.reduceLT]) _) ?_
  refine wk_aload_n (wg_da dt_X12_init_0 34 rfl) rfl ?_
  refine wk_sipush (400 : Int32) (wg_da dt_X12_init_0 35 rfl) (by decide) ?_
  refine wk_newaK 400 8 (wg_da dt_X12_init_0 36 rfl) wq_arr (by decide) (by decide) (by decide) (by simp only [List.length_append, List.length_cons, List.length_nil, nl_9, nl_2, nl_0, nl_4, nl_3, nl_8, nl_10, nl_5, nl_6, nl_1, nl_7, Nat.reduceAdd, Nat.reduceLT]) (by decide) (by decide) (And.intro (Nat.lt_add_right _ hk) trivial) (And.intro (Nat.lt_add_right _ hk) trivial) (Nat.le_add_right _ _) ?_
  refine wk_putRk wcf_X12_34 (wg_da dt_X12_init_0 37 rfl) hk (by first | (simp only [List.length_set]; decide) | decide) (Nat.add_lt_add_left (by simp only [List.length_append, List.length_cons, List.length_nil, nl_9, nl_2, nl_0, nl_4, nl_3, nl_8, nl_10, nl_5, nl_6, nl_1, nl_7, Nat.reduceAdd, Nat.reduceLT]) _) ?_
  refine wk_aload_n (wg_da dt_X12_init_0 38 rfl) rfl ?_
  refine wk_sipush (129 : Int32) (wg_da dt_X12_init_0 39 rfl) (by decide) ?_
  refine wk_newaK 129 9 (wg_da dt_X12_init_0 40 rfl) wq_arr (by decide) (by decide) (by decide) (by simp only [List.length_append, List.length_cons, List.length_nil, nl_9, nl_2, nl_0, nl_4, nl_3, nl_8, nl_10, nl_5, nl_6, nl_1, nl_7, Nat.reduceAdd, Nat.reduceLT]) (by decide) (by decide) (And.intro (Nat.lt_add_right _ hk) trivial) (And.intro (Nat.lt_add_right _ hk) trivial) (Nat.le_add_right _ _) ?_
  refine wk_dup (wg_da dt_X12_init_0 41 rfl) ?_
  refine wk_iconst (0 : Int32) (wg_da dt_X12_init_0 42 rfl) (by decide) ?_
  refine wk_bipush (32 : Int32) (wg_da dt_X12_init_0 43 rfl) (by decide) ?_
  refine wk_iastT (j := 0) (by simp only [List.length_append, List.length_cons, List.length_nil, nl_9, nl_2, nl_0, nl_4, nl_3, nl_8, nl_10, nl_5, nl_6, nl_1, nl_7, Nat.reduceAdd, Nat.reduceLT]) (wg_da dt_X12_init_0 44 rfl) (by decide) rfl rfl ?_
  refine wk_dup (wg_da dt_X12_init_0 45 rfl) ?_
  refine wk_iconst (1 : Int32) (wg_da dt_X12_init_0 46 rfl) (by decide) ?_
  refine wk_bipush (99 : Int32) (wg_da dt_X12_init_0 47 rfl) (by decide) ?_
  refine wk_iastT (j := 1) (by simp only [List.length_append, List.length_cons, List.length_nil, nl_9, nl_2, nl_0, nl_4, nl_3, nl_8, nl_10, nl_5, nl_6, nl_1, nl_7, Nat.reduceAdd, Nat.reduceLT]) (wg_da dt_X12_init_0 48 rfl) (by decide) rfl rfl ?_
  refine wk_dup (wg_da dt_X12_init_0 49 rfl) ?_
  refine wk_iconst (2 : Int32) (wg_da dt_X12_init_0 50 rfl) (by decide) ?_
  refine wk_bipush (111 : Int32) (wg_da dt_X12_init_0 51 rfl) (by decide) ?_
  refine wk_iastT (j := 2) (by simp only [List.length_append, List.length_cons, List.length_nil, nl_9, nl_2, nl_0, nl_4, nl_3, nl_8, nl_10, nl_5, nl_6, nl_1, nl_7, Nat.reduceAdd, Nat.reduceLT]) (wg_da dt_X12_init_0 52 rfl) (by decide) rfl rfl ?_
  refine wk_dup (wg_da dt_X12_init_0 53 rfl) ?_
  refine wk_iconst (3 : Int32) (wg_da dt_X12_init_0 54 rfl) (by decide) ?_
  refine wk_bipush (117 : Int32) (wg_da dt_X12_init_0 55 rfl) (by decide) ?_
  refine wk_iastT (j := 3) (by simp only [List.length_append, List.length_cons, List.length_nil, nl_9, nl_2, nl_0, nl_4, nl_3, nl_8, nl_10, nl_5, nl_6, nl_1, nl_7, Nat.reduceAdd, Nat.reduceLT]) (wg_da dt_X12_init_0 56 rfl) (by decide) rfl rfl ?_
  refine wk_dup (wg_da dt_X12_init_0 57 rfl) ?_
  refine wk_iconst (4 : Int32) (wg_da dt_X12_init_0 58 rfl) (by decide) ?_
  refine wk_bipush (110 : Int32) (wg_da dt_X12_init_0 59 rfl) (by decide) ?_
  refine wk_iastT (j := 4) (by simp only [List.length_append, List.length_cons, List.length_nil, nl_9, nl_2, nl_0, nl_4, nl_3, nl_8, nl_10, nl_5, nl_6, nl_1, nl_7, Nat.reduceAdd, Nat.reduceLT]) (wg_da dt_X12_init_1 0 rfl) (by decide) rfl rfl ?_
  refine wk_dup (wg_da dt_X12_init_1 1 rfl) ?_
  refine wk_iconst (5 : Int32) (wg_da dt_X12_init_1 2 rfl) (by decide) ?_
  refine wk_bipush (116 : Int32) (wg_da dt_X12_init_1 3 rfl) (by decide) ?_
  refine wk_iastT (j := 5) (by simp only [List.length_append, List.length_cons, List.length_nil, nl_9, nl_2, nl_0, nl_4, nl_3, nl_8, nl_10, nl_5, nl_6, nl_1, nl_7, Nat.reduceAdd, Nat.reduceLT]) (wg_da dt_X12_init_1 4 rfl) (by decide) rfl rfl ?_
  refine wk_dup (wg_da dt_X12_init_1 5 rfl) ?_
  refine wk_bipush (6 : Int32) (wg_da dt_X12_init_1 6 rfl) (by decide) ?_
  refine wk_bipush (115 : Int32) (wg_da dt_X12_init_1 7 rfl) (by decide) ?_
  refine wk_iastT (j := 6) (by simp only [List.length_append, List.length_cons, List.length_nil, nl_9, nl_2, nl_0, nl_4, nl_3, nl_8, nl_10, nl_5, nl_6, nl_1, nl_7, Nat.reduceAdd, Nat.reduceLT]) (wg_da dt_X12_init_1 8 rfl) (by decide) rfl rfl ?_
  refine wk_dup (wg_da dt_X12_init_1 9 rfl) ?_
  refine wk_bipush (7 : Int32) (wg_da dt_X12_init_1 10 rfl) (by decide) ?_
  refine wk_bipush (32 : Int32) (wg_da dt_X12_init_1 11 rfl) (by decide) ?_
  refine wk_iastT (j := 7) (by simp only [List.length_append, List.length_cons, List.length_nil, nl_9, nl_2, nl_0, nl_4, nl_3, nl_8, nl_10, nl_5, nl_6, nl_1, nl_7, Nat.reduceAdd, Nat.reduceLT]) (wg_da dt_X12_init_1 12 rfl) (by decide) rfl rfl ?_
  refine wk_dup (wg_da dt_X12_init_1 13 rfl) ?_
  refine wk_bipush (8 : Int32) (wg_da dt_X12_init_1 14 rfl) (by decide) ?_
  refine wk_bipush (109 : Int32) (wg_da dt_X12_init_1 15 rfl) (by decide) ?_
  refine wk_iastT (j := 8) (by simp only [List.length_append, List.length_cons, List.length_nil, nl_9, nl_2, nl_0, nl_4, nl_3, nl_8, nl_10, nl_5, nl_6, nl_1, nl_7, Nat.reduceAdd, Nat.reduceLT]) (wg_da dt_X12_init_1 16 rfl) (by decide) rfl rfl ?_
  refine wk_dup (wg_da dt_X12_init_1 17 rfl) ?_
  refine wk_bipush (9 : Int32) (wg_da dt_X12_init_1 18 rfl) (by decide) ?_
  refine wk_bipush (111 : Int32) (wg_da dt_X12_init_1 19 rfl) (by decide) ?_
  refine wk_iastT (j := 9) (by simp only [List.length_append, List.length_cons, List.length_nil, nl_9, nl_2, nl_0, nl_4, nl_3, nl_8, nl_10, nl_5, nl_6, nl_1, nl_7, Nat.reduceAdd, Nat.reduceLT]) (wg_da dt_X12_init_1 20 rfl) (by decide) rfl rfl ?_
  refine wk_dup (wg_da dt_X12_init_1 21 rfl) ?_
  refine wk_bipush (10 : Int32) (wg_da dt_X12_init_1 22 rfl) (by decide) ?_
  refine wk_bipush (116 : Int32) (wg_da dt_X12_init_1 23 rfl) (by decide) ?_
  refine wk_iastT (j := 10) (by simp only [List.length_append, List.length_cons, List.length_nil, nl_9, nl_2, nl_0, nl_4, nl_3, nl_8, nl_10, nl_5, nl_6, nl_1, nl_7, Nat.reduceAdd, Nat.reduceLT]) (wg_da dt_X12_init_1 24 rfl) (by decide) rfl rfl ?_
  refine wk_dup (wg_da dt_X12_init_1 25 rfl) ?_
  refine wk_bipush (11 : Int32) (wg_da dt_X12_init_1 26 rfl) (by decide) ?_
  refine wk_bipush (104 : Int32) (wg_da dt_X12_init_1 27 rfl) (by decide) ?_
  refine wk_iastT (j := 11) (by simp only [List.length_append, List.length_cons, List.length_nil, nl_9, nl_2, nl_0, nl_4, nl_3, nl_8, nl_10, nl_5, nl_6, nl_1, nl_7, Nat.reduceAdd, Nat.reduceLT]) (wg_da dt_X12_init_1 28 rfl) (by decide) rfl rfl ?_
  refine wk_dup (wg_da dt_X12_init_1 29 rfl) ?_
  refine wk_bipush (12 : Int32) (wg_da dt_X12_init_1 30 rfl) (by decide) ?_
  refine wk_bipush (32 : Int32) (wg_da dt_X12_init_1 31 rfl) (by decide) ?_
  refine wk_iastT (j := 12) (by simp only [List.length_append, List.length_cons, List.length_nil, nl_9, nl_2, nl_0, nl_4, nl_3, nl_8, nl_10, nl_5, nl_6, nl_1, nl_7, Nat.reduceAdd, Nat.reduceLT]) (wg_da dt_X12_init_1 32 rfl) (by decide) rfl rfl ?_
  refine wk_dup (wg_da dt_X12_init_1 33 rfl) ?_
  refine wk_bipush (13 : Int32) (wg_da dt_X12_init_1 34 rfl) (by decide) ?_
  refine wk_bipush (100 : Int32) (wg_da dt_X12_init_1 35 rfl) (by decide) ?_
  refine wk_iastT (j := 13) (by simp only [List.length_append, List.length_cons, List.length_nil, nl_9, nl_2, nl_0, nl_4, nl_3, nl_8, nl_10, nl_5, nl_6, nl_1, nl_7, Nat.reduceAdd, Nat.reduceLT]) (wg_da dt_X12_init_1 36 rfl) (by decide) rfl rfl ?_
  refine wk_dup (wg_da dt_X12_init_1 37 rfl) ?_
  refine wk_bipush (14 : Int32) (wg_da dt_X12_init_1 38 rfl) (by decide) ?_
  refine wk_bipush (105 : Int32) (wg_da dt_X12_init_1 39 rfl) (by decide) ?_
  refine wk_iastT (j := 14) (by simp only [List.length_append, List.length_cons, List.length_nil, nl_9, nl_2, nl_0, nl_4, nl_3, nl_8, nl_10, nl_5, nl_6, nl_1, nl_7, Nat.reduceAdd, Nat.reduceLT]) (wg_da dt_X12_init_1 40 rfl) (by decide) rfl rfl ?_
  refine wk_dup (wg_da dt_X12_init_1 41 rfl) ?_
  refine wk_bipush (15 : Int32) (wg_da dt_X12_init_1 42 rfl) (by decide) ?_
  refine wk_bipush (101 : Int32) (wg_da dt_X12_init_1 43 rfl) (by decide) ?_
  refine wk_iastT (j := 15) (by simp only [List.length_append, List.length_cons, List.length_nil, nl_9, nl_2, nl_0, nl_4, nl_3, nl_8, nl_10, nl_5, nl_6, nl_1, nl_7, Nat.reduceAdd, Nat.reduceLT]) (wg_da dt_X12_init_1 44 rfl) (by decide) rfl rfl ?_
  refine wk_dup (wg_da dt_X12_init_1 45 rfl) ?_
  refine wk_bipush (16 : Int32) (wg_da dt_X12_init_1 46 rfl) (by decide) ?_
  refine wk_bipush (115 : Int32) (wg_da dt_X12_init_1 47 rfl) (by decide) ?_
  refine wk_iastT (j := 16) (by simp only [List.length_append, List.length_cons, List.length_nil, nl_9, nl_2, nl_0, nl_4, nl_3, nl_8, nl_10, nl_5, nl_6, nl_1, nl_7, Nat.reduceAdd, Nat.reduceLT]) (wg_da dt_X12_init_1 48 rfl) (by decide) rfl rfl ?_
  refine wk_dup (wg_da dt_X12_init_1 49 rfl) ?_
  refine wk_bipush (17 : Int32) (wg_da dt_X12_init_1 50 rfl) (by decide) ?_
  refine wk_bipush (32 : Int32) (wg_da dt_X12_init_1 51 rfl) (by decide) ?_
  refine wk_iastT (j := 17) (by simp only [List.length_append, List.length_cons, List.length_nil, nl_9, nl_2, nl_0, nl_4, nl_3, nl_8, nl_10, nl_5, nl_6, nl_1, nl_7, Nat.reduceAdd, Nat.reduceLT]) (wg_da dt_X12_init_1 52 rfl) (by decide) rfl rfl ?_
  refine wk_dup (wg_da dt_X12_init_1 53 rfl) ?_
  refine wk_bipush (18 : Int32) (wg_da dt_X12_init_1 54 rfl) (by decide) ?_
  refine wk_bipush (119 : Int32) (wg_da dt_X12_init_1 55 rfl) (by decide) ?_
  refine wk_iastT (j := 18) (by simp only [List.length_append, List.length_cons, List.length_nil, nl_9, nl_2, nl_0, nl_4, nl_3, nl_8, nl_10, nl_5, nl_6, nl_1, nl_7, Nat.reduceAdd, Nat.reduceLT]) (wg_da dt_X12_init_1 56 rfl) (by decide) rfl rfl ?_
  refine wk_dup (wg_da dt_X12_init_1 57 rfl) ?_
  refine wk_bipush (19 : Int32) (wg_da dt_X12_init_1 58 rfl) (by decide) ?_
  refine wk_bipush (104 : Int32) (wg_da dt_X12_init_1 59 rfl) (by decide) ?_
  refine wk_iastT (j := 19) (by simp only [List.length_append, List.length_cons, List.length_nil, nl_9, nl_2, nl_0, nl_4, nl_3, nl_8, nl_10, nl_5, nl_6, nl_1, nl_7, Nat.reduceAdd, Nat.reduceLT]) (wg_da dt_X12_init_2 0 rfl) (by decide) rfl rfl ?_
  refine wk_dup (wg_da dt_X12_init_2 1 rfl) ?_
  refine wk_bipush (20 : Int32) (wg_da dt_X12_init_2 2 rfl) (by decide) ?_
  refine wk_bipush (101 : Int32) (wg_da dt_X12_init_2 3 rfl) (by decide) ?_
  refine wk_iastT (j := 20) (by simp only [List.length_append, List.length_cons, List.length_nil, nl_9, nl_2, nl_0, nl_4, nl_3, nl_8, nl_10, nl_5, nl_6, nl_1, nl_7, Nat.reduceAdd, Nat.reduceLT]) (wg_da dt_X12_init_2 4 rfl) (by decide) rfl rfl ?_
  refine wk_dup (wg_da dt_X12_init_2 5 rfl) ?_
  refine wk_bipush (21 : Int32) (wg_da dt_X12_init_2 6 rfl) (by decide) ?_
  refine wk_bipush (110 : Int32) (wg_da dt_X12_init_2 7 rfl) (by decide) ?_
  refine wk_iastT (j := 21) (by simp only [List.length_append, List.length_cons, List.length_nil, nl_9, nl_2, nl_0, nl_4, nl_3, nl_8, nl_10, nl_5, nl_6, nl_1, nl_7, Nat.reduceAdd, Nat.reduceLT]) (wg_da dt_X12_init_2 8 rfl) (by decide) rfl rfl ?_
  refine wk_dup (wg_da dt_X12_init_2 9 rfl) ?_
  refine wk_bipush (22 : Int32) (wg_da dt_X12_init_2 10 rfl) (by decide) ?_
  refine wk_bipush (32 : Int32) (wg_da dt_X12_init_2 11 rfl) (by decide) ?_
  refine wk_iastT (j := 22) (by simp only [List.length_append, List.length_cons, List.length_nil, nl_9, nl_2, nl_0, nl_4, nl_3, nl_8, nl_10, nl_5, nl_6, nl_1, nl_7, Nat.reduceAdd, Nat.reduceLT]) (wg_da dt_X12_init_2 12 rfl) (by decide) rfl rfl ?_
  refine wk_dup (wg_da dt_X12_init_2 13 rfl) ?_
  refine wk_bipush (23 : Int32) (wg_da dt_X12_init_2 14 rfl) (by decide) ?_
  refine wk_bipush (111 : Int32) (wg_da dt_X12_init_2 15 rfl) (by decide) ?_
  refine wk_iastT (j := 23) (by simp only [List.length_append, List.length_cons, List.length_nil, nl_9, nl_2, nl_0, nl_4, nl_3, nl_8, nl_10, nl_5, nl_6, nl_1, nl_7, Nat.reduceAdd, Nat.reduceLT]) (wg_da dt_X12_init_2 16 rfl) (by decide) rfl rfl ?_
  refine wk_dup (wg_da dt_X12_init_2 17 rfl) ?_
  refine wk_bipush (24 : Int32) (wg_da dt_X12_init_2 18 rfl) (by decide) ?_
  refine wk_bipush (114 : Int32) (wg_da dt_X12_init_2 19 rfl) (by decide) ?_
  refine wk_iastT (j := 24) (by simp only [List.length_append, List.length_cons, List.length_nil, nl_9, nl_2, nl_0, nl_4, nl_3, nl_8, nl_10, nl_5, nl_6, nl_1, nl_7, Nat.reduceAdd, Nat.reduceLT]) (wg_da dt_X12_init_2 20 rfl) (by decide) rfl rfl ?_
  refine wk_dup (wg_da dt_X12_init_2 21 rfl) ?_
  refine wk_bipush (25 : Int32) (wg_da dt_X12_init_2 22 rfl) (by decide) ?_
  refine wk_bipush (32 : Int32) (wg_da dt_X12_init_2 23 rfl) (by decide) ?_
  refine wk_iastT (j := 25) (by simp only [List.length_append, List.length_cons, List.length_nil, nl_9, nl_2, nl_0, nl_4, nl_3, nl_8, nl_10, nl_5, nl_6, nl_1, nl_7, Nat.reduceAdd, Nat.reduceLT]) (wg_da dt_X12_init_2 24 rfl) (by decide) rfl rfl ?_
  refine wk_dup (wg_da dt_X12_init_2 25 rfl) ?_
  refine wk_bipush (26 : Int32) (wg_da dt_X12_init_2 26 rfl) (by decide) ?_
  refine wk_bipush (97 : Int32) (wg_da dt_X12_init_2 27 rfl) (by decide) ?_
  refine wk_iastT (j := 26) (by simp only [List.length_append, List.length_cons, List.length_nil, nl_9, nl_2, nl_0, nl_4, nl_3, nl_8, nl_10, nl_5, nl_6, nl_1, nl_7, Nat.reduceAdd, Nat.reduceLT]) (wg_da dt_X12_init_2 28 rfl) (by decide) rfl rfl ?_
  refine wk_dup (wg_da dt_X12_init_2 29 rfl) ?_
  refine wk_bipush (27 : Int32) (wg_da dt_X12_init_2 30 rfl) (by decide) ?_
  refine wk_bipush (110 : Int32) (wg_da dt_X12_init_2 31 rfl) (by decide) ?_
  refine wk_iastT (j := 27) (by simp only [List.length_append, List.length_cons, List.length_nil, nl_9, nl_2, nl_0, nl_4, nl_3, nl_8, nl_10, nl_5, nl_6, nl_1, nl_7, Nat.reduceAdd, Nat.reduceLT]) (wg_da dt_X12_init_2 32 rfl) (by decide) rfl rfl ?_
  refine wk_dup (wg_da dt_X12_init_2 33 rfl) ?_
  refine wk_bipush (28 : Int32) (wg_da dt_X12_init_2 34 rfl) (by decide) ?_
  refine wk_bipush (100 : Int32) (wg_da dt_X12_init_2 35 rfl) (by decide) ?_
  refine wk_iastT (j := 28) (by simp only [List.length_append, List.length_cons, List.length_nil, nl_9, nl_2, nl_0, nl_4, nl_3, nl_8, nl_10, nl_5, nl_6, nl_1, nl_7, Nat.reduceAdd, Nat.reduceLT]) (wg_da dt_X12_init_2 36 rfl) (by decide) rfl rfl ?_
  refine wk_dup (wg_da dt_X12_init_2 37 rfl) ?_
  refine wk_bipush (29 : Int32) (wg_da dt_X12_init_2 38 rfl) (by decide) ?_
  refine wk_bipush (32 : Int32) (wg_da dt_X12_init_2 39 rfl) (by decide) ?_
  refine wk_iastT (j := 29) (by simp only [List.length_append, List.length_cons, List.length_nil, nl_9, nl_2, nl_0, nl_4, nl_3, nl_8, nl_10, nl_5, nl_6, nl_1, nl_7, Nat.reduceAdd, Nat.reduceLT]) (wg_da dt_X12_init_2 40 rfl) (by decide) rfl rfl ?_
  refine wk_dup (wg_da dt_X12_init_2 41 rfl) ?_
  refine wk_bipush (30 : Int32) (wg_da dt_X12_init_2 42 rfl) (by decide) ?_
  refine wk_bipush (110 : Int32) (wg_da dt_X12_init_2 43 rfl) (by decide) ?_
  refine wk_iastT (j := 30) (by simp only [List.length_append, List.length_cons, List.length_nil, nl_9, nl_2, nl_0, nl_4, nl_3, nl_8, nl_10, nl_5, nl_6, nl_1, nl_7, Nat.reduceAdd, Nat.reduceLT]) (wg_da dt_X12_init_2 44 rfl) (by decide) rfl rfl ?_
  refine wk_dup (wg_da dt_X12_init_2 45 rfl) ?_
  refine wk_bipush (31 : Int32) (wg_da dt_X12_init_2 46 rfl) (by decide) ?_
  refine wk_bipush (111 : Int32) (wg_da dt_X12_init_2 47 rfl) (by decide) ?_
  refine wk_iastT (j := 31) (by simp only [List.length_append, List.length_cons, List.length_nil, nl_9, nl_2, nl_0, nl_4, nl_3, nl_8, nl_10, nl_5, nl_6, nl_1, nl_7, Nat.reduceAdd, Nat.reduceLT]) (wg_da dt_X12_init_2 48 rfl) (by decide) rfl rfl ?_
  refine wk_dup (wg_da dt_X12_init_2 49 rfl) ?_
  refine wk_bipush (32 : Int32) (wg_da dt_X12_init_2 50 rfl) (by decide) ?_
  refine wk_bipush (116 : Int32) (wg_da dt_X12_init_2 51 rfl) (by decide) ?_
  refine wk_iastT (j := 32) (by simp only [List.length_append, List.length_cons, List.length_nil, nl_9, nl_2, nl_0, nl_4, nl_3, nl_8, nl_10, nl_5, nl_6, nl_1, nl_7, Nat.reduceAdd, Nat.reduceLT]) (wg_da dt_X12_init_2 52 rfl) (by decide) rfl rfl ?_
  refine wk_dup (wg_da dt_X12_init_2 53 rfl) ?_
  refine wk_bipush (33 : Int32) (wg_da dt_X12_init_2 54 rfl) (by decide) ?_
  refine wk_bipush (32 : Int32) (wg_da dt_X12_init_2 55 rfl) (by decide) ?_
  refine wk_iastT (j := 33) (by simp only [List.length_append, List.length_cons, List.length_nil, nl_9, nl_2, nl_0, nl_4, nl_3, nl_8, nl_10, nl_5, nl_6, nl_1, nl_7, Nat.reduceAdd, Nat.reduceLT]) (wg_da dt_X12_init_2 56 rfl) (by decide) rfl rfl ?_
  refine wk_dup (wg_da dt_X12_init_2 57 rfl) ?_
  refine wk_bipush (34 : Int32) (wg_da dt_X12_init_2 58 rfl) (by decide) ?_
  refine wk_bipush (97 : Int32) (wg_da dt_X12_init_2 59 rfl) (by decide) ?_
  refine wk_iastT (j := 34) (by simp only [List.length_append, List.length_cons, List.length_nil, nl_9, nl_2, nl_0, nl_4, nl_3, nl_8, nl_10, nl_5, nl_6, nl_1, nl_7, Nat.reduceAdd, Nat.reduceLT]) (wg_da dt_X12_init_3 0 rfl) (by decide) rfl rfl ?_
  refine wk_dup (wg_da dt_X12_init_3 1 rfl) ?_
  refine wk_bipush (35 : Int32) (wg_da dt_X12_init_3 2 rfl) (by decide) ?_
  refine wk_bipush (103 : Int32) (wg_da dt_X12_init_3 3 rfl) (by decide) ?_
  refine wk_iastT (j := 35) (by simp only [List.length_append, List.length_cons, List.length_nil, nl_9, nl_2, nl_0, nl_4, nl_3, nl_8, nl_10, nl_5, nl_6, nl_1, nl_7, Nat.reduceAdd, Nat.reduceLT]) (wg_da dt_X12_init_3 4 rfl) (by decide) rfl rfl ?_
  refine wk_dup (wg_da dt_X12_init_3 5 rfl) ?_
  refine wk_bipush (36 : Int32) (wg_da dt_X12_init_3 6 rfl) (by decide) ?_
  refine wk_bipush (101 : Int32) (wg_da dt_X12_init_3 7 rfl) (by decide) ?_
  refine wk_iastT (j := 36) (by simp only [List.length_append, List.length_cons, List.length_nil, nl_9, nl_2, nl_0, nl_4, nl_3, nl_8, nl_10, nl_5, nl_6, nl_1, nl_7, Nat.reduceAdd, Nat.reduceLT]) (wg_da dt_X12_init_3 8 rfl) (by decide) rfl rfl ?_
  refine wk_dup (wg_da dt_X12_init_3 9 rfl) ?_
  refine wk_bipush (37 : Int32) (wg_da dt_X12_init_3 10 rfl) (by decide) ?_
  refine wk_bipush (32 : Int32) (wg_da dt_X12_init_3 11 rfl) (by decide) ?_
  refine wk_iastT (j := 37) (by simp only [List.length_append, List.length_cons, List.length_nil, nl_9, nl_2, nl_0, nl_4, nl_3, nl_8, nl_10, nl_5, nl_6, nl_1, nl_7, Nat.reduceAdd, Nat.reduceLT]) (wg_da dt_X12_init_3 12 rfl) (by decide) rfl rfl ?_
  refine wk_dup (wg_da dt_X12_init_3 13 rfl) ?_
  refine wk_bipush (38 : Int32) (wg_da dt_X12_init_3 14 rfl) (by decide) ?_
  refine wk_bipush (109 : Int32) (wg_da dt_X12_init_3 15 rfl) (by decide) ?_
  refine wk_iastT (j := 38) (by simp only [List.length_append, List.length_cons, List.length_nil, nl_9, nl_2, nl_0, nl_4, nl_3, nl_8, nl_10, nl_5, nl_6, nl_1, nl_7, Nat.reduceAdd, Nat.reduceLT]) (wg_da dt_X12_init_3 16 rfl) (by decide) rfl rfl ?_
  refine wk_dup (wg_da dt_X12_init_3 17 rfl) ?_
  refine wk_bipush (39 : Int32) (wg_da dt_X12_init_3 18 rfl) (by decide) ?_
  refine wk_bipush (105 : Int32) (wg_da dt_X12_init_3 19 rfl) (by decide) ?_
  refine wk_iastT (j := 39) (by simp only [List.length_append, List.length_cons, List.length_nil, nl_9, nl_2, nl_0, nl_4, nl_3, nl_8, nl_10, nl_5, nl_6, nl_1, nl_7, Nat.reduceAdd, Nat.reduceLT]) (wg_da dt_X12_init_3 20 rfl) (by decide) rfl rfl ?_
  refine wk_dup (wg_da dt_X12_init_3 21 rfl) ?_
  refine wk_bipush (40 : Int32) (wg_da dt_X12_init_3 22 rfl) (by decide) ?_
  refine wk_bipush (110 : Int32) (wg_da dt_X12_init_3 23 rfl) (by decide) ?_
  refine wk_iastT (j := 40) (by simp only [List.length_append, List.length_cons, List.length_nil, nl_9, nl_2, nl_0, nl_4, nl_3, nl_8, nl_10, nl_5, nl_6, nl_1, nl_7, Nat.reduceAdd, Nat.reduceLT]) (wg_da dt_X12_init_3 24 rfl) (by decide) rfl rfl ?_
  refine wk_dup (wg_da dt_X12_init_3 25 rfl) ?_
  refine wk_bipush (41 : Int32) (wg_da dt_X12_init_3 26 rfl) (by decide) ?_
  refine wk_bipush (100 : Int32) (wg_da dt_X12_init_3 27 rfl) (by decide) ?_
  refine wk_iastT (j := 41) (by simp only [List.length_append, List.length_cons, List.length_nil, nl_9, nl_2, nl_0, nl_4, nl_3, nl_8, nl_10, nl_5, nl_6, nl_1, nl_7, Nat.reduceAdd, Nat.reduceLT]) (wg_da dt_X12_init_3 28 rfl) (by decide) rfl rfl ?_
  refine wk_dup (wg_da dt_X12_init_3 29 rfl) ?_
  refine wk_bipush (42 : Int32) (wg_da dt_X12_init_3 30 rfl) (by decide) ?_
  refine wk_bipush (32 : Int32) (wg_da dt_X12_init_3 31 rfl) (by decide) ?_
  refine wk_iastT (j := 42) (by simp only [List.length_append, List.length_cons, List.length_nil, nl_9, nl_2, nl_0, nl_4, nl_3, nl_8, nl_10, nl_5, nl_6, nl_1, nl_7, Nat.reduceAdd, Nat.reduceLT]) (wg_da dt_X12_init_3 32 rfl) (by decide) rfl rfl ?_
  refine wk_dup (wg_da dt_X12_init_3 33 rfl) ?_
  refine wk_bipush (43 : Int32) (wg_da dt_X12_init_3 34 rfl) (by decide) ?_
  refine wk_bipush (99 : Int32) (wg_da dt_X12_init_3 35 rfl) (by decide) ?_
  refine wk_iastT (j := 43) (by simp only [List.length_append, List.length_cons, List.length_nil, nl_9, nl_2, nl_0, nl_4, nl_3, nl_8, nl_10, nl_5, nl_6, nl_1, nl_7, Nat.reduceAdd, Nat.reduceLT]) (wg_da dt_X12_init_3 36 rfl) (by decide) rfl rfl ?_
  refine wk_dup (wg_da dt_X12_init_3 37 rfl) ?_
  refine wk_bipush (44 : Int32) (wg_da dt_X12_init_3 38 rfl) (by decide) ?_
  refine wk_bipush (111 : Int32) (wg_da dt_X12_init_3 39 rfl) (by decide) ?_
  refine wk_iastT (j := 44) (by simp only [List.length_append, List.length_cons, List.length_nil, nl_9, nl_2, nl_0, nl_4, nl_3, nl_8, nl_10, nl_5, nl_6, nl_1, nl_7, Nat.reduceAdd, Nat.reduceLT]) (wg_da dt_X12_init_3 40 rfl) (by decide) rfl rfl ?_
  refine wk_dup (wg_da dt_X12_init_3 41 rfl) ?_
  refine wk_bipush (45 : Int32) (wg_da dt_X12_init_3 42 rfl) (by decide) ?_
  refine wk_bipush (108 : Int32) (wg_da dt_X12_init_3 43 rfl) (by decide) ?_
  refine wk_iastT (j := 45) (by simp only [List.length_append, List.length_cons, List.length_nil, nl_9, nl_2, nl_0, nl_4, nl_3, nl_8, nl_10, nl_5, nl_6, nl_1, nl_7, Nat.reduceAdd, Nat.reduceLT]) (wg_da dt_X12_init_3 44 rfl) (by decide) rfl rfl ?_
  refine wk_dup (wg_da dt_X12_init_3 45 rfl) ?_
  refine wk_bipush (46 : Int32) (wg_da dt_X12_init_3 46 rfl) (by decide) ?_
  refine wk_bipush (111 : Int32) (wg_da dt_X12_init_3 47 rfl) (by decide) ?_
  refine wk_iastT (j := 46) (by simp only [List.length_append, List.length_cons, List.length_nil, nl_9, nl_2, nl_0, nl_4, nl_3, nl_8, nl_10, nl_5, nl_6, nl_1, nl_7, Nat.reduceAdd, Nat.reduceLT]) (wg_da dt_X12_init_3 48 rfl) (by decide) rfl rfl ?_
  refine wk_dup (wg_da dt_X12_init_3 49 rfl) ?_
  refine wk_bipush (47 : Int32) (wg_da dt_X12_init_3 50 rfl) (by decide) ?_
  refine wk_bipush (117 : Int32) (wg_da dt_X12_init_3 51 rfl) (by decide) ?_
  refine wk_iastT (j := 47) (by simp only [List.length_append, List.length_cons, List.length_nil, nl_9, nl_2, nl_0, nl_4, nl_3, nl_8, nl_10, nl_5, nl_6, nl_1, nl_7, Nat.reduceAdd, Nat.reduceLT]) (wg_da dt_X12_init_3 52 rfl) (by decide) rfl rfl ?_
  refine wk_dup (wg_da dt_X12_init_3 53 rfl) ?_
  refine wk_bipush (48 : Int32) (wg_da dt_X12_init_3 54 rfl) (by decide) ?_
  refine wk_bipush (114 : Int32) (wg_da dt_X12_init_3 55 rfl) (by decide) ?_
  refine wk_iastT (j := 48) (by simp only [List.length_append, List.length_cons, List.length_nil, nl_9, nl_2, nl_0, nl_4, nl_3, nl_8, nl_10, nl_5, nl_6, nl_1, nl_7, Nat.reduceAdd, Nat.reduceLT]) (wg_da dt_X12_init_3 56 rfl) (by decide) rfl rfl ?_
  refine wk_dup (wg_da dt_X12_init_3 57 rfl) ?_
  refine wk_bipush (49 : Int32) (wg_da dt_X12_init_3 58 rfl) (by decide) ?_
  refine wk_bipush (32 : Int32) (wg_da dt_X12_init_3 59 rfl) (by decide) ?_
  refine wk_iastT (j := 49) (by simp only [List.length_append, List.length_cons, List.length_nil, nl_9, nl_2, nl_0, nl_4, nl_3, nl_8, nl_10, nl_5, nl_6, nl_1, nl_7, Nat.reduceAdd, Nat.reduceLT]) (wg_da dt_X12_init_4 0 rfl) (by decide) rfl rfl ?_
  refine wk_dup (wg_da dt_X12_init_4 1 rfl) ?_
  refine wk_bipush (50 : Int32) (wg_da dt_X12_init_4 2 rfl) (by decide) ?_
  refine wk_bipush (104 : Int32) (wg_da dt_X12_init_4 3 rfl) (by decide) ?_
  refine wk_iastT (j := 50) (by simp only [List.length_append, List.length_cons, List.length_nil, nl_9, nl_2, nl_0, nl_4, nl_3, nl_8, nl_10, nl_5, nl_6, nl_1, nl_7, Nat.reduceAdd, Nat.reduceLT]) (wg_da dt_X12_init_4 4 rfl) (by decide) rfl rfl ?_
  refine wk_dup (wg_da dt_X12_init_4 5 rfl) ?_
  refine wk_bipush (51 : Int32) (wg_da dt_X12_init_4 6 rfl) (by decide) ?_
  refine wk_bipush (97 : Int32) (wg_da dt_X12_init_4 7 rfl) (by decide) ?_
  refine wk_iastT (j := 51) (by simp only [List.length_append, List.length_cons, List.length_nil, nl_9, nl_2, nl_0, nl_4, nl_3, nl_8, nl_10, nl_5, nl_6, nl_1, nl_7, Nat.reduceAdd, Nat.reduceLT]) (wg_da dt_X12_init_4 8 rfl) (by decide) rfl rfl ?_
  refine wk_dup (wg_da dt_X12_init_4 9 rfl) ?_
  refine wk_bipush (52 : Int32) (wg_da dt_X12_init_4 10 rfl) (by decide) ?_
  refine wk_bipush (105 : Int32) (wg_da dt_X12_init_4 11 rfl) (by decide) ?_
  refine wk_iastT (j := 52) (by simp only [List.length_append, List.length_cons, List.length_nil, nl_9, nl_2, nl_0, nl_4, nl_3, nl_8, nl_10, nl_5, nl_6, nl_1, nl_7, Nat.reduceAdd, Nat.reduceLT]) (wg_da dt_X12_init_4 12 rfl) (by decide) rfl rfl ?_
  refine wk_dup (wg_da dt_X12_init_4 13 rfl) ?_
  refine wk_bipush (53 : Int32) (wg_da dt_X12_init_4 14 rfl) (by decide) ?_
  refine wk_bipush (114 : Int32) (wg_da dt_X12_init_4 15 rfl) (by decide) ?_
  refine wk_iastT (j := 53) (by simp only [List.length_append, List.length_cons, List.length_nil, nl_9, nl_2, nl_0, nl_4, nl_3, nl_8, nl_10, nl_5, nl_6, nl_1, nl_7, Nat.reduceAdd, Nat.reduceLT]) (wg_da dt_X12_init_4 16 rfl) (by decide) rfl rfl ?_
  refine wk_dup (wg_da dt_X12_init_4 17 rfl) ?_
  refine wk_bipush (54 : Int32) (wg_da dt_X12_init_4 18 rfl) (by decide) ?_
  refine wk_bipush (32 : Int32) (wg_da dt_X12_init_4 19 rfl) (by decide) ?_
  refine wk_iastT (j := 54) (by simp only [List.length_append, List.length_cons, List.length_nil, nl_9, nl_2, nl_0, nl_4, nl_3, nl_8, nl_10, nl_5, nl_6, nl_1, nl_7, Nat.reduceAdd, Nat.reduceLT]) (wg_da dt_X12_init_4 20 rfl) (by decide) rfl rfl ?_
  refine wk_dup (wg_da dt_X12_init_4 21 rfl) ?_
  refine wk_bipush (55 : Int32) (wg_da dt_X12_init_4 22 rfl) (by decide) ?_
  refine wk_bipush (105 : Int32) (wg_da dt_X12_init_4 23 rfl) (by decide) ?_
  refine wk_iastT (j := 55) (by simp only [List.length_append, List.length_cons, List.length_nil, nl_9, nl_2, nl_0, nl_4, nl_3, nl_8, nl_10, nl_5, nl_6, nl_1, nl_7, Nat.reduceAdd, Nat.reduceLT]) (wg_da dt_X12_init_4 24 rfl) (by decide) rfl rfl ?_
  refine wk_dup (wg_da dt_X12_init_4 25 rfl) ?_
  refine wk_bipush (56 : Int32) (wg_da dt_X12_init_4 26 rfl) (by decide) ?_
  refine wk_bipush (116 : Int32) (wg_da dt_X12_init_4 27 rfl) (by decide) ?_
  refine wk_iastT (j := 56) (by simp only [List.length_append, List.length_cons, List.length_nil, nl_9, nl_2, nl_0, nl_4, nl_3, nl_8, nl_10, nl_5, nl_6, nl_1, nl_7, Nat.reduceAdd, Nat.reduceLT]) (wg_da dt_X12_init_4 28 rfl) (by decide) rfl rfl ?_
  refine wk_dup (wg_da dt_X12_init_4 29 rfl) ?_
  refine wk_bipush (57 : Int32) (wg_da dt_X12_init_4 30 rfl) (by decide) ?_
  refine wk_bipush (99 : Int32) (wg_da dt_X12_init_4 31 rfl) (by decide) ?_
  refine wk_iastT (j := 57) (by simp only [List.length_append, List.length_cons, List.length_nil, nl_9, nl_2, nl_0, nl_4, nl_3, nl_8, nl_10, nl_5, nl_6, nl_1, nl_7, Nat.reduceAdd, Nat.reduceLT]) (wg_da dt_X12_init_4 32 rfl) (by decide) rfl rfl ?_
  refine wk_dup (wg_da dt_X12_init_4 33 rfl) ?_
  refine wk_bipush (58 : Int32) (wg_da dt_X12_init_4 34 rfl) (by decide) ?_
  refine wk_bipush (104 : Int32) (wg_da dt_X12_init_4 35 rfl) (by decide) ?_
  refine wk_iastT (j := 58) (by simp only [List.length_append, List.length_cons, List.length_nil, nl_9, nl_2, nl_0, nl_4, nl_3, nl_8, nl_10, nl_5, nl_6, nl_1, nl_7, Nat.reduceAdd, Nat.reduceLT]) (wg_da dt_X12_init_4 36 rfl) (by decide) rfl rfl ?_
  refine wk_dup (wg_da dt_X12_init_4 37 rfl) ?_
  refine wk_bipush (59 : Int32) (wg_da dt_X12_init_4 38 rfl) (by decide) ?_
  refine wk_bipush (32 : Int32) (wg_da dt_X12_init_4 39 rfl) (by decide) ?_
  refine wk_iastT (j := 59) (by simp only [List.length_append, List.length_cons, List.length_nil, nl_9, nl_2, nl_0, nl_4, nl_3, nl_8, nl_10, nl_5, nl_6, nl_1, nl_7, Nat.reduceAdd, Nat.reduceLT]) (wg_da dt_X12_init_4 40 rfl) (by decide) rfl rfl ?_
  refine wk_dup (wg_da dt_X12_init_4 41 rfl) ?_
  refine wk_bipush (60 : Int32) (wg_da dt_X12_init_4 42 rfl) (by decide) ?_
  refine wk_bipush (108 : Int32) (wg_da dt_X12_init_4 43 rfl) (by decide) ?_
  refine wk_iastT (j := 60) (by simp only [List.length_append, List.length_cons, List.length_nil, nl_9, nl_2, nl_0, nl_4, nl_3, nl_8, nl_10, nl_5, nl_6, nl_1, nl_7, Nat.reduceAdd, Nat.reduceLT]) (wg_da dt_X12_init_4 44 rfl) (by decide) rfl rfl ?_
  refine wk_dup (wg_da dt_X12_init_4 45 rfl) ?_
  refine wk_bipush (61 : Int32) (wg_da dt_X12_init_4 46 rfl) (by decide) ?_
  refine wk_bipush (101 : Int32) (wg_da dt_X12_init_4 47 rfl) (by decide) ?_
  refine wk_iastT (j := 61) (by simp only [List.length_append, List.length_cons, List.length_nil, nl_9, nl_2, nl_0, nl_4, nl_3, nl_8, nl_10, nl_5, nl_6, nl_1, nl_7, Nat.reduceAdd, Nat.reduceLT]) (wg_da dt_X12_init_4 48 rfl) (by decide) rfl rfl ?_
  refine wk_dup (wg_da dt_X12_init_4 49 rfl) ?_
  refine wk_bipush (62 : Int32) (wg_da dt_X12_init_4 50 rfl) (by decide) ?_
  refine wk_bipush (110 : Int32) (wg_da dt_X12_init_4 51 rfl) (by decide) ?_
  refine wk_iastT (j := 62) (by simp only [List.length_append, List.length_cons, List.length_nil, nl_9, nl_2, nl_0, nl_4, nl_3, nl_8, nl_10, nl_5, nl_6, nl_1, nl_7, Nat.reduceAdd, Nat.reduceLT]) (wg_da dt_X12_init_4 52 rfl) (by decide) rfl rfl ?_
  refine wk_dup (wg_da dt_X12_init_4 53 rfl) ?_
  refine wk_bipush (63 : Int32) (wg_da dt_X12_init_4 54 rfl) (by decide) ?_
  refine wk_bipush (116 : Int32) (wg_da dt_X12_init_4 55 rfl) (by decide) ?_
  refine wk_iastT (j := 63) (by simp only [List.length_append, List.length_cons, List.length_nil, nl_9, nl_2, nl_0, nl_4, nl_3, nl_8, nl_10, nl_5, nl_6, nl_1, nl_7, Nat.reduceAdd, Nat.reduceLT]) (wg_da dt_X12_init_4 56 rfl) (by decide) rfl rfl ?_
  refine wk_dup (wg_da dt_X12_init_4 57 rfl) ?_
  refine wk_bipush (64 : Int32) (wg_da dt_X12_init_4 58 rfl) (by decide) ?_
  refine wk_bipush (32 : Int32) (wg_da dt_X12_init_4 59 rfl) (by decide) ?_
  refine wk_iastT (j := 64) (by simp only [List.length_append, List.length_cons, List.length_nil, nl_9, nl_2, nl_0, nl_4, nl_3, nl_8, nl_10, nl_5, nl_6, nl_1, nl_7, Nat.reduceAdd, Nat.reduceLT]) (wg_da dt_X12_init_5 0 rfl) (by decide) rfl rfl ?_
  refine wk_dup (wg_da dt_X12_init_5 1 rfl) ?_
  refine wk_bipush (65 : Int32) (wg_da dt_X12_init_5 2 rfl) (by decide) ?_
  refine wk_bipush (99 : Int32) (wg_da dt_X12_init_5 3 rfl) (by decide) ?_
  refine wk_iastT (j := 65) (by simp only [List.length_append, List.length_cons, List.length_nil, nl_9, nl_2, nl_0, nl_4, nl_3, nl_8, nl_10, nl_5, nl_6, nl_1, nl_7, Nat.reduceAdd, Nat.reduceLT]) (wg_da dt_X12_init_5 4 rfl) (by decide) rfl rfl ?_
  refine wk_dup (wg_da dt_X12_init_5 5 rfl) ?_
  refine wk_bipush (66 : Int32) (wg_da dt_X12_init_5 6 rfl) (by decide) ?_
  refine wk_bipush (97 : Int32) (wg_da dt_X12_init_5 7 rfl) (by decide) ?_
  refine wk_iastT (j := 66) (by simp only [List.length_append, List.length_cons, List.length_nil, nl_9, nl_2, nl_0, nl_4, nl_3, nl_8, nl_10, nl_5, nl_6, nl_1, nl_7, Nat.reduceAdd, Nat.reduceLT]) (wg_da dt_X12_init_5 8 rfl) (by decide) rfl rfl ?_
  refine wk_dup (wg_da dt_X12_init_5 9 rfl) ?_
  refine wk_bipush (67 : Int32) (wg_da dt_X12_init_5 10 rfl) (by decide) ?_
  refine wk_bipush (117 : Int32) (wg_da dt_X12_init_5 11 rfl) (by decide) ?_
  refine wk_iastT (j := 67) (by simp only [List.length_append, List.length_cons, List.length_nil, nl_9, nl_2, nl_0, nl_4, nl_3, nl_8, nl_10, nl_5, nl_6, nl_1, nl_7, Nat.reduceAdd, Nat.reduceLT]) (wg_da dt_X12_init_5 12 rfl) (by decide) rfl rfl ?_
  refine wk_dup (wg_da dt_X12_init_5 13 rfl) ?_
  refine wk_bipush (68 : Int32) (wg_da dt_X12_init_5 14 rfl) (by decide) ?_
  refine wk_bipush (115 : Int32) (wg_da dt_X12_init_5 15 rfl) (by decide) ?_
  refine wk_iastT (j := 68) (by simp only [List.length_append, List.length_cons, List.length_nil, nl_9, nl_2, nl_0, nl_4, nl_3, nl_8, nl_10, nl_5, nl_6, nl_1, nl_7, Nat.reduceAdd, Nat.reduceLT]) (wg_da dt_X12_init_5 16 rfl) (by decide) rfl rfl ?_
  refine wk_dup (wg_da dt_X12_init_5 17 rfl) ?_
  refine wk_bipush (69 : Int32) (wg_da dt_X12_init_5 18 rfl) (by decide) ?_
  refine wk_bipush (101 : Int32) (wg_da dt_X12_init_5 19 rfl) (by decide) ?_
  refine wk_iastT (j := 69) (by simp only [List.length_append, List.length_cons, List.length_nil, nl_9, nl_2, nl_0, nl_4, nl_3, nl_8, nl_10, nl_5, nl_6, nl_1, nl_7, Nat.reduceAdd, Nat.reduceLT]) (wg_da dt_X12_init_5 20 rfl) (by decide) rfl rfl ?_
  refine wk_dup (wg_da dt_X12_init_5 21 rfl) ?_
  refine wk_bipush (70 : Int32) (wg_da dt_X12_init_5 22 rfl) (by decide) ?_
  refine wk_bipush (32 : Int32) (wg_da dt_X12_init_5 23 rfl) (by decide) ?_
  refine wk_iastT (j := 70) (by simp only [List.length_append, List.length_cons, List.length_nil, nl_9, nl_2, nl_0, nl_4, nl_3, nl_8, nl_10, nl_5, nl_6, nl_1, nl_7, Nat.reduceAdd, Nat.reduceLT]) (wg_da dt_X12_init_5 24 rfl) (by decide) rfl rfl ?_
  refine wk_dup (wg_da dt_X12_init_5 25 rfl) ?_
  refine wk_bipush (71 : Int32) (wg_da dt_X12_init_5 26 rfl) (by decide) ?_
  refine wk_bipush (119 : Int32) (wg_da dt_X12_init_5 27 rfl) (by decide) ?_
  refine wk_iastT (j := 71) (by simp only [List.length_append, List.length_cons, List.length_nil, nl_9, nl_2, nl_0, nl_4, nl_3, nl_8, nl_10, nl_5, nl_6, nl_1, nl_7, Nat.reduceAdd, Nat.reduceLT]) (wg_da dt_X12_init_5 28 rfl) (by decide) rfl rfl ?_
  refine wk_dup (wg_da dt_X12_init_5 29 rfl) ?_
  refine wk_bipush (72 : Int32) (wg_da dt_X12_init_5 30 rfl) (by decide) ?_
  refine wk_bipush (101 : Int32) (wg_da dt_X12_init_5 31 rfl) (by decide) ?_
  refine wk_iastT (j := 72) (by simp only [List.length_append, List.length_cons, List.length_nil, nl_9, nl_2, nl_0, nl_4, nl_3, nl_8, nl_10, nl_5, nl_6, nl_1, nl_7, Nat.reduceAdd, Nat.reduceLT]) (wg_da dt_X12_init_5 32 rfl) (by decide) rfl rfl ?_
  refine wk_dup (wg_da dt_X12_init_5 33 rfl) ?_
  refine wk_bipush (73 : Int32) (wg_da dt_X12_init_5 34 rfl) (by decide) ?_
  refine wk_bipush (105 : Int32) (wg_da dt_X12_init_5 35 rfl) (by decide) ?_
  refine wk_iastT (j := 73) (by simp only [List.length_append, List.length_cons, List.length_nil, nl_9, nl_2, nl_0, nl_4, nl_3, nl_8, nl_10, nl_5, nl_6, nl_1, nl_7, Nat.reduceAdd, Nat.reduceLT]) (wg_da dt_X12_init_5 36 rfl) (by decide) rfl rfl ?_
  refine wk_dup (wg_da dt_X12_init_5 37 rfl) ?_
  refine wk_bipush (74 : Int32) (wg_da dt_X12_init_5 38 rfl) (by decide) ?_
  refine wk_bipush (103 : Int32) (wg_da dt_X12_init_5 39 rfl) (by decide) ?_
  refine wk_iastT (j := 74) (by simp only [List.length_append, List.length_cons, List.length_nil, nl_9, nl_2, nl_0, nl_4, nl_3, nl_8, nl_10, nl_5, nl_6, nl_1, nl_7, Nat.reduceAdd, Nat.reduceLT]) (wg_da dt_X12_init_5 40 rfl) (by decide) rfl rfl ?_
  refine wk_dup (wg_da dt_X12_init_5 41 rfl) ?_
  refine wk_bipush (75 : Int32) (wg_da dt_X12_init_5 42 rfl) (by decide) ?_
  refine wk_bipush (104 : Int32) (wg_da dt_X12_init_5 43 rfl) (by decide) ?_
  refine wk_iastT (j := 75) (by simp only [List.length_append, List.length_cons, List.length_nil, nl_9, nl_2, nl_0, nl_4, nl_3, nl_8, nl_10, nl_5, nl_6, nl_1, nl_7, Nat.reduceAdd, Nat.reduceLT]) (wg_da dt_X12_init_5 44 rfl) (by decide) rfl rfl ?_
  refine wk_dup (wg_da dt_X12_init_5 45 rfl) ?_
  refine wk_bipush (76 : Int32) (wg_da dt_X12_init_5 46 rfl) (by decide) ?_
  refine wk_bipush (116 : Int32) (wg_da dt_X12_init_5 47 rfl) (by decide) ?_
  refine wk_iastT (j := 76) (by simp only [List.length_append, List.length_cons, List.length_nil, nl_9, nl_2, nl_0, nl_4, nl_3, nl_8, nl_10, nl_5, nl_6, nl_1, nl_7, Nat.reduceAdd, Nat.reduceLT]) (wg_da dt_X12_init_5 48 rfl) (by decide) rfl rfl ?_
  refine wk_dup (wg_da dt_X12_init_5 49 rfl) ?_
  refine wk_bipush (77 : Int32) (wg_da dt_X12_init_5 50 rfl) (by decide) ?_
  refine wk_bipush (32 : Int32) (wg_da dt_X12_init_5 51 rfl) (by decide) ?_
  refine wk_iastT (j := 77) (by simp only [List.length_append, List.length_cons, List.length_nil, nl_9, nl_2, nl_0, nl_4, nl_3, nl_8, nl_10, nl_5, nl_6, nl_1, nl_7, Nat.reduceAdd, Nat.reduceLT]) (wg_da dt_X12_init_5 52 rfl) (by decide) rfl rfl ?_
  refine wk_dup (wg_da dt_X12_init_5 53 rfl) ?_
  refine wk_bipush (78 : Int32) (wg_da dt_X12_init_5 54 rfl) (by decide) ?_
  refine wk_bipush (116 : Int32) (wg_da dt_X12_init_5 55 rfl) (by decide) ?_
  refine wk_iastT (j := 78) (by simp only [List.length_append, List.length_cons, List.length_nil, nl_9, nl_2, nl_0, nl_4, nl_3, nl_8, nl_10, nl_5, nl_6, nl_1, nl_7, Nat.reduceAdd, Nat.reduceLT]) (wg_da dt_X12_init_5 56 rfl) (by decide) rfl rfl ?_
  refine wk_dup (wg_da dt_X12_init_5 57 rfl) ?_
  refine wk_bipush (79 : Int32) (wg_da dt_X12_init_5 58 rfl) (by decide) ?_
  refine wk_bipush (114 : Int32) (wg_da dt_X12_init_5 59 rfl) (by decide) ?_
  refine wk_iastT (j := 79) (by simp only [List.length_append, List.length_cons, List.length_nil, nl_9, nl_2, nl_0, nl_4, nl_3, nl_8, nl_10, nl_5, nl_6, nl_1, nl_7, Nat.reduceAdd, Nat.reduceLT]) (wg_da dt_X12_init_6 0 rfl) (by decide) rfl rfl ?_
  refine wk_dup (wg_da dt_X12_init_6 1 rfl) ?_
  refine wk_bipush (80 : Int32) (wg_da dt_X12_init_6 2 rfl) (by decide) ?_
  refine wk_bipush (105 : Int32) (wg_da dt_X12_init_6 3 rfl) (by decide) ?_
  refine wk_iastT (j := 80) (by simp only [List.length_append, List.length_cons, List.length_nil, nl_9, nl_2, nl_0, nl_4, nl_3, nl_8, nl_10, nl_5, nl_6, nl_1, nl_7, Nat.reduceAdd, Nat.reduceLT]) (wg_da dt_X12_init_6 4 rfl) (by decide) rfl rfl ?_
  refine wk_dup (wg_da dt_X12_init_6 5 rfl) ?_
  refine wk_bipush (81 : Int32) (wg_da dt_X12_init_6 6 rfl) (by decide) ?_
  refine wk_bipush (101 : Int32) (wg_da dt_X12_init_6 7 rfl) (by decide) ?_
  refine wk_iastT (j := 81) (by simp only [List.length_append, List.length_cons, List.length_nil, nl_9, nl_2, nl_0, nl_4, nl_3, nl_8, nl_10, nl_5, nl_6, nl_1, nl_7, Nat.reduceAdd, Nat.reduceLT]) (wg_da dt_X12_init_6 8 rfl) (by decide) rfl rfl ?_
  refine wk_dup (wg_da dt_X12_init_6 9 rfl) ?_
  refine wk_bipush (82 : Int32) (wg_da dt_X12_init_6 10 rfl) (by decide) ?_
  refine wk_bipush (100 : Int32) (wg_da dt_X12_init_6 11 rfl) (by decide) ?_
  refine wk_iastT (j := 82) (by simp only [List.length_append, List.length_cons, List.length_nil, nl_9, nl_2, nl_0, nl_4, nl_3, nl_8, nl_10, nl_5, nl_6, nl_1, nl_7, Nat.reduceAdd, Nat.reduceLT]) (wg_da dt_X12_init_6 12 rfl) (by decide) rfl rfl ?_
  refine wk_dup (wg_da dt_X12_init_6 13 rfl) ?_
  refine wk_bipush (83 : Int32) (wg_da dt_X12_init_6 14 rfl) (by decide) ?_
  refine wk_bipush (32 : Int32) (wg_da dt_X12_init_6 15 rfl) (by decide) ?_
  refine wk_iastT (j := 83) (by simp only [List.length_append, List.length_cons, List.length_nil, nl_9, nl_2, nl_0, nl_4, nl_3, nl_8, nl_10, nl_5, nl_6, nl_1, nl_7, Nat.reduceAdd, Nat.reduceLT]) (wg_da dt_X12_init_6 16 rfl) (by decide) rfl rfl ?_
  refine wk_dup (wg_da dt_X12_init_6 17 rfl) ?_
  refine wk_bipush (84 : Int32) (wg_da dt_X12_init_6 18 rfl) (by decide) ?_
  refine wk_bipush (121 : Int32) (wg_da dt_X12_init_6 19 rfl) (by decide) ?_
  refine wk_iastT (j := 84) (by simp only [List.length_append, List.length_cons, List.length_nil, nl_9, nl_2, nl_0, nl_4, nl_3, nl_8, nl_10, nl_5, nl_6, nl_1, nl_7, Nat.reduceAdd, Nat.reduceLT]) (wg_da dt_X12_init_6 20 rfl) (by decide) rfl rfl ?_
  refine wk_dup (wg_da dt_X12_init_6 21 rfl) ?_
  refine wk_bipush (85 : Int32) (wg_da dt_X12_init_6 22 rfl) (by decide) ?_
  refine wk_bipush (101 : Int32) (wg_da dt_X12_init_6 23 rfl) (by decide) ?_
  refine wk_iastT (j := 85) (by simp only [List.length_append, List.length_cons, List.length_nil, nl_9, nl_2, nl_0, nl_4, nl_3, nl_8, nl_10, nl_5, nl_6, nl_1, nl_7, Nat.reduceAdd, Nat.reduceLT]) (wg_da dt_X12_init_6 24 rfl) (by decide) rfl rfl ?_
  refine wk_dup (wg_da dt_X12_init_6 25 rfl) ?_
  refine wk_bipush (86 : Int32) (wg_da dt_X12_init_6 26 rfl) (by decide) ?_
  refine wk_bipush (97 : Int32) (wg_da dt_X12_init_6 27 rfl) (by decide) ?_
  refine wk_iastT (j := 86) (by simp only [List.length_append, List.length_cons, List.length_nil, nl_9, nl_2, nl_0, nl_4, nl_3, nl_8, nl_10, nl_5, nl_6, nl_1, nl_7, Nat.reduceAdd, Nat.reduceLT]) (wg_da dt_X12_init_6 28 rfl) (by decide) rfl rfl ?_
  refine wk_dup (wg_da dt_X12_init_6 29 rfl) ?_
  refine wk_bipush (87 : Int32) (wg_da dt_X12_init_6 30 rfl) (by decide) ?_
  refine wk_bipush (114 : Int32) (wg_da dt_X12_init_6 31 rfl) (by decide) ?_
  refine wk_iastT (j := 87) (by simp only [List.length_append, List.length_cons, List.length_nil, nl_9, nl_2, nl_0, nl_4, nl_3, nl_8, nl_10, nl_5, nl_6, nl_1, nl_7, Nat.reduceAdd, Nat.reduceLT]) (wg_da dt_X12_init_6 32 rfl) (by decide) rfl rfl ?_
  refine wk_dup (wg_da dt_X12_init_6 33 rfl) ?_
  refine wk_bipush (88 : Int32) (wg_da dt_X12_init_6 34 rfl) (by decide) ?_
  refine wk_bipush (32 : Int32) (wg_da dt_X12_init_6 35 rfl) (by decide) ?_
  refine wk_iastT (j := 88) (by simp only [List.length_append, List.length_cons, List.length_nil, nl_9, nl_2, nl_0, nl_4, nl_3, nl_8, nl_10, nl_5, nl_6, nl_1, nl_7, Nat.reduceAdd, Nat.reduceLT]) (wg_da dt_X12_init_6 36 rfl) (by decide) rfl rfl ?_
  refine wk_dup (wg_da dt_X12_init_6 37 rfl) ?_
  refine wk_bipush (89 : Int32) (wg_da dt_X12_init_6 38 rfl) (by decide) ?_
  refine wk_bipush (105 : Int32) (wg_da dt_X12_init_6 39 rfl) (by decide) ?_
  refine wk_iastT (j := 89) (by simp only [List.length_append, List.length_cons, List.length_nil, nl_9, nl_2, nl_0, nl_4, nl_3, nl_8, nl_10, nl_5, nl_6, nl_1, nl_7, Nat.reduceAdd, Nat.reduceLT]) (wg_da dt_X12_init_6 40 rfl) (by decide) rfl rfl ?_
  refine wk_dup (wg_da dt_X12_init_6 41 rfl) ?_
  refine wk_bipush (90 : Int32) (wg_da dt_X12_init_6 42 rfl) (by decide) ?_
  refine wk_bipush (110 : Int32) (wg_da dt_X12_init_6 43 rfl) (by decide) ?_
  refine wk_iastT (j := 90) (by simp only [List.length_append, List.length_cons, List.length_nil, nl_9, nl_2, nl_0, nl_4, nl_3, nl_8, nl_10, nl_5, nl_6, nl_1, nl_7, Nat.reduceAdd, Nat.reduceLT]) (wg_da dt_X12_init_6 44 rfl) (by decide) rfl rfl ?_
  refine wk_dup (wg_da dt_X12_init_6 45 rfl) ?_
  refine wk_bipush (91 : Int32) (wg_da dt_X12_init_6 46 rfl) (by decide) ?_
  refine wk_bipush (32 : Int32) (wg_da dt_X12_init_6 47 rfl) (by decide) ?_
  refine wk_iastT (j := 91) (by simp only [List.length_append, List.length_cons, List.length_nil, nl_9, nl_2, nl_0, nl_4, nl_3, nl_8, nl_10, nl_5, nl_6, nl_1, nl_7, Nat.reduceAdd, Nat.reduceLT]) (wg_da dt_X12_init_6 48 rfl) (by decide) rfl rfl ?_
  refine wk_dup (wg_da dt_X12_init_6 49 rfl) ?_
  refine wk_bipush (92 : Int32) (wg_da dt_X12_init_6 50 rfl) (by decide) ?_
  refine wk_bipush (99 : Int32) (wg_da dt_X12_init_6 51 rfl) (by decide) ?_
  refine wk_iastT (j := 92) (by simp only [List.length_append, List.length_cons, List.length_nil, nl_9, nl_2, nl_0, nl_4, nl_3, nl_8, nl_10, nl_5, nl_6, nl_1, nl_7, Nat.reduceAdd, Nat.reduceLT]) (wg_da dt_X12_init_6 52 rfl) (by decide) rfl rfl ?_
  refine wk_dup (wg_da dt_X12_init_6 53 rfl) ?_
  refine wk_bipush (93 : Int32) (wg_da dt_X12_init_6 54 rfl) (by decide) ?_
  refine wk_bipush (97 : Int32) (wg_da dt_X12_init_6 55 rfl) (by decide) ?_
  refine wk_iastT (j := 93) (by simp only [List.length_append, List.length_cons, List.length_nil, nl_9, nl_2, nl_0, nl_4, nl_3, nl_8, nl_10, nl_5, nl_6, nl_1, nl_7, Nat.reduceAdd, Nat.reduceLT]) (wg_da dt_X12_init_6 56 rfl) (by decide) rfl rfl ?_
  refine wk_dup (wg_da dt_X12_init_6 57 rfl) ?_
  refine wk_bipush (94 : Int32) (wg_da dt_X12_init_6 58 rfl) (by decide) ?_
  refine wk_bipush (115 : Int32) (wg_da dt_X12_init_6 59 rfl) (by decide) ?_
  refine wk_iastT (j := 94) (by simp only [List.length_append, List.length_cons, List.length_nil, nl_9, nl_2, nl_0, nl_4, nl_3, nl_8, nl_10, nl_5, nl_6, nl_1, nl_7, Nat.reduceAdd, Nat.reduceLT]) (wg_da dt_X12_init_7 0 rfl) (by decide) rfl rfl ?_
  refine wk_dup (wg_da dt_X12_init_7 1 rfl) ?_
  refine wk_bipush (95 : Int32) (wg_da dt_X12_init_7 2 rfl) (by decide) ?_
  refine wk_bipush (101 : Int32) (wg_da dt_X12_init_7 3 rfl) (by decide) ?_
  refine wk_iastT (j := 95) (by simp only [List.length_append, List.length_cons, List.length_nil, nl_9, nl_2, nl_0, nl_4, nl_3, nl_8, nl_10, nl_5, nl_6, nl_1, nl_7, Nat.reduceAdd, Nat.reduceLT]) (wg_da dt_X12_init_7 4 rfl) (by decide) rfl rfl ?_
  refine wk_dup (wg_da dt_X12_init_7 5 rfl) ?_
  refine wk_bipush (96 : Int32) (wg_da dt_X12_init_7 6 rfl) (by decide) ?_
  refine wk_bipush (32 : Int32) (wg_da dt_X12_init_7 7 rfl) (by decide) ?_
  refine wk_iastT (j := 96) (by simp only [List.length_append, List.length_cons, List.length_nil, nl_9, nl_2, nl_0, nl_4, nl_3, nl_8, nl_10, nl_5, nl_6, nl_1, nl_7, Nat.reduceAdd, Nat.reduceLT]) (wg_da dt_X12_init_7 8 rfl) (by decide) rfl rfl ?_
  refine wk_dup (wg_da dt_X12_init_7 9 rfl) ?_
  refine wk_bipush (97 : Int32) (wg_da dt_X12_init_7 10 rfl) (by decide) ?_
  refine wk_bipush (98 : Int32) (wg_da dt_X12_init_7 11 rfl) (by decide) ?_
  refine wk_iastT (j := 97) (by simp only [List.length_append, List.length_cons, List.length_nil, nl_9, nl_2, nl_0, nl_4, nl_3, nl_8, nl_10, nl_5, nl_6, nl_1, nl_7, Nat.reduceAdd, Nat.reduceLT]) (wg_da dt_X12_init_7 12 rfl) (by decide) rfl rfl ?_
  refine wk_dup (wg_da dt_X12_init_7 13 rfl) ?_
  refine wk_bipush (98 : Int32) (wg_da dt_X12_init_7 14 rfl) (by decide) ?_
  refine wk_bipush (101 : Int32) (wg_da dt_X12_init_7 15 rfl) (by decide) ?_
  refine wk_iastT (j := 98) (by simp only [List.length_append, List.length_cons, List.length_nil, nl_9, nl_2, nl_0, nl_4, nl_3, nl_8, nl_10, nl_5, nl_6, nl_1, nl_7, Nat.reduceAdd, Nat.reduceLT]) (wg_da dt_X12_init_7 16 rfl) (by decide) rfl rfl ?_
  refine wk_dup (wg_da dt_X12_init_7 17 rfl) ?_
  refine wk_bipush (99 : Int32) (wg_da dt_X12_init_7 18 rfl) (by decide) ?_
  refine wk_bipush (102 : Int32) (wg_da dt_X12_init_7 19 rfl) (by decide) ?_
  refine wk_iastT (j := 99) (by simp only [List.length_append, List.length_cons, List.length_nil, nl_9, nl_2, nl_0, nl_4, nl_3, nl_8, nl_10, nl_5, nl_6, nl_1, nl_7, Nat.reduceAdd, Nat.reduceLT]) (wg_da dt_X12_init_7 20 rfl) (by decide) rfl rfl ?_
  refine wk_dup (wg_da dt_X12_init_7 21 rfl) ?_
  refine wk_bipush (100 : Int32) (wg_da dt_X12_init_7 22 rfl) (by decide) ?_
  refine wk_bipush (111 : Int32) (wg_da dt_X12_init_7 23 rfl) (by decide) ?_
  refine wk_iastT (j := 100) (by simp only [List.length_append, List.length_cons, List.length_nil, nl_9, nl_2, nl_0, nl_4, nl_3, nl_8, nl_10, nl_5, nl_6, nl_1, nl_7, Nat.reduceAdd, Nat.reduceLT]) (wg_da dt_X12_init_7 24 rfl) (by decide) rfl rfl ?_
  refine wk_dup (wg_da dt_X12_init_7 25 rfl) ?_
  refine wk_bipush (101 : Int32) (wg_da dt_X12_init_7 26 rfl) (by decide) ?_
  refine wk_bipush (114 : Int32) (wg_da dt_X12_init_7 27 rfl) (by decide) ?_
  refine wk_iastT (j := 101) (by simp only [List.length_append, List.length_cons, List.length_nil, nl_9, nl_2, nl_0, nl_4, nl_3, nl_8, nl_10, nl_5, nl_6, nl_1, nl_7, Nat.reduceAdd, Nat.reduceLT]) (wg_da dt_X12_init_7 28 rfl) (by decide) rfl rfl ?_
  refine wk_dup (wg_da dt_X12_init_7 29 rfl) ?_
  refine wk_bipush (102 : Int32) (wg_da dt_X12_init_7 30 rfl) (by decide) ?_
  refine wk_bipush (101 : Int32) (wg_da dt_X12_init_7 31 rfl) (by decide) ?_
  refine wk_iastT (j := 102) (by simp only [List.length_append, List.length_cons, List.length_nil, nl_9, nl_2, nl_0, nl_4, nl_3, nl_8, nl_10, nl_5, nl_6, nl_1, nl_7, Nat.reduceAdd, Nat.reduceLT]) (wg_da dt_X12_init_7 32 rfl) (by decide) rfl rfl ?_
  refine wk_dup (wg_da dt_X12_init_7 33 rfl) ?_
  refine wk_bipush (103 : Int32) (wg_da dt_X12_init_7 34 rfl) (by decide) ?_
  refine wk_bipush (32 : Int32) (wg_da dt_X12_init_7 35 rfl) (by decide) ?_
  refine wk_iastT (j := 103) (by simp only [List.length_append, List.length_cons, List.length_nil, nl_9, nl_2, nl_0, nl_4, nl_3, nl_8, nl_10, nl_5, nl_6, nl_1, nl_7, Nat.reduceAdd, Nat.reduceLT]) (wg_da dt_X12_init_7 36 rfl) (by decide) rfl rfl ?_
  refine wk_dup (wg_da dt_X12_init_7 37 rfl) ?_
  refine wk_bipush (104 : Int32) (wg_da dt_X12_init_7 38 rfl) (by decide) ?_
  refine wk_bipush (119 : Int32) (wg_da dt_X12_init_7 39 rfl) (by decide) ?_
  refine wk_iastT (j := 104) (by simp only [List.length_append, List.length_cons, List.length_nil, nl_9, nl_2, nl_0, nl_4, nl_3, nl_8, nl_10, nl_5, nl_6, nl_1, nl_7, Nat.reduceAdd, Nat.reduceLT]) (wg_da dt_X12_init_7 40 rfl) (by decide) rfl rfl ?_
  refine wk_dup (wg_da dt_X12_init_7 41 rfl) ?_
  refine wk_bipush (105 : Int32) (wg_da dt_X12_init_7 42 rfl) (by decide) ?_
  refine wk_bipush (105 : Int32) (wg_da dt_X12_init_7 43 rfl) (by decide) ?_
  refine wk_iastT (j := 105) (by simp only [List.length_append, List.length_cons, List.length_nil, nl_9, nl_2, nl_0, nl_4, nl_3, nl_8, nl_10, nl_5, nl_6, nl_1, nl_7, Nat.reduceAdd, Nat.reduceLT]) (wg_da dt_X12_init_7 44 rfl) (by decide) rfl rfl ?_
  refine wk_dup (wg_da dt_X12_init_7 45 rfl) ?_
  refine wk_bipush (106 : Int32) (wg_da dt_X12_init_7 46 rfl) (by decide) ?_
  refine wk_bipush (103 : Int32) (wg_da dt_X12_init_7 47 rfl) (by decide) ?_
  refine wk_iastT (j := 106) (by simp only [List.length_append, List.length_cons, List.length_nil, nl_9, nl_2, nl_0, nl_4, nl_3, nl_8, nl_10, nl_5, nl_6, nl_1, nl_7, Nat.reduceAdd, Nat.reduceLT]) (wg_da dt_X12_init_7 48 rfl) (by decide) rfl rfl ?_
  refine wk_dup (wg_da dt_X12_init_7 49 rfl) ?_
  refine wk_bipush (107 : Int32) (wg_da dt_X12_init_7 50 rfl) (by decide) ?_
  refine wk_bipush (32 : Int32) (wg_da dt_X12_init_7 51 rfl) (by decide) ?_
  refine wk_iastT (j := 107) (by simp only [List.length_append, List.length_cons, List.length_nil, nl_9, nl_2, nl_0, nl_4, nl_3, nl_8, nl_10, nl_5, nl_6, nl_1, nl_7, Nat.reduceAdd, Nat.reduceLT]) (wg_da dt_X12_init_7 52 rfl) (by decide) rfl rfl ?_
  refine wk_dup (wg_da dt_X12_init_7 53 rfl) ?_
  refine wk_bipush (108 : Int32) (wg_da dt_X12_init_7 54 rfl) (by decide) ?_
  refine wk_bipush (111 : Int32) (wg_da dt_X12_init_7 55 rfl) (by decide) ?_
  refine wk_iastT (j := 108) (by simp only [List.length_append, List.length_cons, List.length_nil, nl_9, nl_2, nl_0, nl_4, nl_3, nl_8, nl_10, nl_5, nl_6, nl_1, nl_7, Nat.reduceAdd, Nat.reduceLT]) (wg_da dt_X12_init_7 56 rfl) (by decide) rfl rfl ?_
  refine wk_dup (wg_da dt_X12_init_7 57 rfl) ?_
  refine wk_bipush (109 : Int32) (wg_da dt_X12_init_7 58 rfl) (by decide) ?_
  refine wk_bipush (110 : Int32) (wg_da dt_X12_init_7 59 rfl) (by decide) ?_
  refine wk_iastT (j := 109) (by simp only [List.length_append, List.length_cons, List.length_nil, nl_9, nl_2, nl_0, nl_4, nl_3, nl_8, nl_10, nl_5, nl_6, nl_1, nl_7, Nat.reduceAdd, Nat.reduceLT]) (wg_da dt_X12_init_8 0 rfl) (by decide) rfl rfl ?_
  refine wk_dup (wg_da dt_X12_init_8 1 rfl) ?_
  refine wk_bipush (110 : Int32) (wg_da dt_X12_init_8 2 rfl) (by decide) ?_
  refine wk_bipush (32 : Int32) (wg_da dt_X12_init_8 3 rfl) (by decide) ?_
  refine wk_iastT (j := 110) (by simp only [List.length_append, List.length_cons, List.length_nil, nl_9, nl_2, nl_0, nl_4, nl_3, nl_8, nl_10, nl_5, nl_6, nl_1, nl_7, Nat.reduceAdd, Nat.reduceLT]) (wg_da dt_X12_init_8 4 rfl) (by decide) rfl rfl ?_
  refine wk_dup (wg_da dt_X12_init_8 5 rfl) ?_
  refine wk_bipush (111 : Int32) (wg_da dt_X12_init_8 6 rfl) (by decide) ?_
  refine wk_bipush (111 : Int32) (wg_da dt_X12_init_8 7 rfl) (by decide) ?_
  refine wk_iastT (j := 111) (by simp only [List.length_append, List.length_cons, List.length_nil, nl_9, nl_2, nl_0, nl_4, nl_3, nl_8, nl_10, nl_5, nl_6, nl_1, nl_7, Nat.reduceAdd, Nat.reduceLT]) (wg_da dt_X12_init_8 8 rfl) (by decide) rfl rfl ?_
  refine wk_dup (wg_da dt_X12_init_8 9 rfl) ?_
  refine wk_bipush (112 : Int32) (wg_da dt_X12_init_8 10 rfl) (by decide) ?_
  refine wk_bipush (102 : Int32) (wg_da dt_X12_init_8 11 rfl) (by decide) ?_
  refine wk_iastT (j := 112) (by simp only [List.length_append, List.length_cons, List.length_nil, nl_9, nl_2, nl_0, nl_4, nl_3, nl_8, nl_10, nl_5, nl_6, nl_1, nl_7, Nat.reduceAdd, Nat.reduceLT]) (wg_da dt_X12_init_8 12 rfl) (by decide) rfl rfl ?_
  refine wk_dup (wg_da dt_X12_init_8 13 rfl) ?_
  refine wk_bipush (113 : Int32) (wg_da dt_X12_init_8 14 rfl) (by decide) ?_
  refine wk_bipush (102 : Int32) (wg_da dt_X12_init_8 15 rfl) (by decide) ?_
  refine wk_iastT (j := 113) (by simp only [List.length_append, List.length_cons, List.length_nil, nl_9, nl_2, nl_0, nl_4, nl_3, nl_8, nl_10, nl_5, nl_6, nl_1, nl_7, Nat.reduceAdd, Nat.reduceLT]) (wg_da dt_X12_init_8 16 rfl) (by decide) rfl rfl ?_
  refine wk_dup (wg_da dt_X12_init_8 17 rfl) ?_
  refine wk_bipush (114 : Int32) (wg_da dt_X12_init_8 18 rfl) (by decide) ?_
  refine wk_bipush (32 : Int32) (wg_da dt_X12_init_8 19 rfl) (by decide) ?_
  refine wk_iastT (j := 114) (by simp only [List.length_append, List.length_cons, List.length_nil, nl_9, nl_2, nl_0, nl_4, nl_3, nl_8, nl_10, nl_5, nl_6, nl_1, nl_7, Nat.reduceAdd, Nat.reduceLT]) (wg_da dt_X12_init_8 20 rfl) (by decide) rfl rfl ?_
  refine wk_dup (wg_da dt_X12_init_8 21 rfl) ?_
  refine wk_bipush (115 : Int32) (wg_da dt_X12_init_8 22 rfl) (by decide) ?_
  refine wk_bipush (99 : Int32) (wg_da dt_X12_init_8 23 rfl) (by decide) ?_
  refine wk_iastT (j := 115) (by simp only [List.length_append, List.length_cons, List.length_nil, nl_9, nl_2, nl_0, nl_4, nl_3, nl_8, nl_10, nl_5, nl_6, nl_1, nl_7, Nat.reduceAdd, Nat.reduceLT]) (wg_da dt_X12_init_8 24 rfl) (by decide) rfl rfl ?_
  refine wk_dup (wg_da dt_X12_init_8 25 rfl) ?_
  refine wk_bipush (116 : Int32) (wg_da dt_X12_init_8 26 rfl) (by decide) ?_
  refine wk_bipush (111 : Int32) (wg_da dt_X12_init_8 27 rfl) (by decide) ?_
  refine wk_iastT (j := 116) (by simp only [List.length_append, List.length_cons, List.length_nil, nl_9, nl_2, nl_0, nl_4, nl_3, nl_8, nl_10, nl_5, nl_6, nl_1, nl_7, Nat.reduceAdd, Nat.reduceLT]) (wg_da dt_X12_init_8 28 rfl) (by decide) rfl rfl ?_
  refine wk_dup (wg_da dt_X12_init_8 29 rfl) ?_
  refine wk_bipush (117 : Int32) (wg_da dt_X12_init_8 30 rfl) (by decide) ?_
  refine wk_bipush (109 : Int32) (wg_da dt_X12_init_8 31 rfl) (by decide) ?_
  refine wk_iastT (j := 117) (by simp only [List.length_append, List.length_cons, List.length_nil, nl_9, nl_2, nl_0, nl_4, nl_3, nl_8, nl_10, nl_5, nl_6, nl_1, nl_7, Nat.reduceAdd, Nat.reduceLT]) (wg_da dt_X12_init_8 32 rfl) (by decide) rfl rfl ?_
  refine wk_dup (wg_da dt_X12_init_8 33 rfl) ?_
  refine wk_bipush (118 : Int32) (wg_da dt_X12_init_8 34 rfl) (by decide) ?_
  refine wk_bipush (98 : Int32) (wg_da dt_X12_init_8 35 rfl) (by decide) ?_
  refine wk_iastT (j := 118) (by simp only [List.length_append, List.length_cons, List.length_nil, nl_9, nl_2, nl_0, nl_4, nl_3, nl_8, nl_10, nl_5, nl_6, nl_1, nl_7, Nat.reduceAdd, Nat.reduceLT]) (wg_da dt_X12_init_8 36 rfl) (by decide) rfl rfl ?_
  refine wk_dup (wg_da dt_X12_init_8 37 rfl) ?_
  refine wk_bipush (119 : Int32) (wg_da dt_X12_init_8 38 rfl) (by decide) ?_
  refine wk_bipush (32 : Int32) (wg_da dt_X12_init_8 39 rfl) (by decide) ?_
  refine wk_iastT (j := 119) (by simp only [List.length_append, List.length_cons, List.length_nil, nl_9, nl_2, nl_0, nl_4, nl_3, nl_8, nl_10, nl_5, nl_6, nl_1, nl_7, Nat.reduceAdd, Nat.reduceLT]) (wg_da dt_X12_init_8 40 rfl) (by decide) rfl rfl ?_
  refine wk_dup (wg_da dt_X12_init_8 41 rfl) ?_
  refine wk_bipush (120 : Int32) (wg_da dt_X12_init_8 42 rfl) (by decide) ?_
  refine wk_bipush (98 : Int32) (wg_da dt_X12_init_8 43 rfl) (by decide) ?_
  refine wk_iastT (j := 120) (by simp only [List.length_append, List.length_cons, List.length_nil, nl_9, nl_2, nl_0, nl_4, nl_3, nl_8, nl_10, nl_5, nl_6, nl_1, nl_7, Nat.reduceAdd, Nat.reduceLT]) (wg_da dt_X12_init_8 44 rfl) (by decide) rfl rfl ?_
  refine wk_dup (wg_da dt_X12_init_8 45 rfl) ?_
  refine wk_bipush (121 : Int32) (wg_da dt_X12_init_8 46 rfl) (by decide) ?_
  refine wk_bipush (114 : Int32) (wg_da dt_X12_init_8 47 rfl) (by decide) ?_
  refine wk_iastT (j := 121) (by simp only [List.length_append, List.length_cons, List.length_nil, nl_9, nl_2, nl_0, nl_4, nl_3, nl_8, nl_10, nl_5, nl_6, nl_1, nl_7, Nat.reduceAdd, Nat.reduceLT]) (wg_da dt_X12_init_8 48 rfl) (by decide) rfl rfl ?_
  refine wk_dup (wg_da dt_X12_init_8 49 rfl) ?_
  refine wk_bipush (122 : Int32) (wg_da dt_X12_init_8 50 rfl) (by decide) ?_
  refine wk_bipush (117 : Int32) (wg_da dt_X12_init_8 51 rfl) (by decide) ?_
  refine wk_iastT (j := 122) (by simp only [List.length_append, List.length_cons, List.length_nil, nl_9, nl_2, nl_0, nl_4, nl_3, nl_8, nl_10, nl_5, nl_6, nl_1, nl_7, Nat.reduceAdd, Nat.reduceLT]) (wg_da dt_X12_init_8 52 rfl) (by decide) rfl rfl ?_
  refine wk_dup (wg_da dt_X12_init_8 53 rfl) ?_
  refine wk_bipush (123 : Int32) (wg_da dt_X12_init_8 54 rfl) (by decide) ?_
  refine wk_bipush (115 : Int32) (wg_da dt_X12_init_8 55 rfl) (by decide) ?_
  refine wk_iastT (j := 123) (by simp only [List.length_append, List.length_cons, List.length_nil, nl_9, nl_2, nl_0, nl_4, nl_3, nl_8, nl_10, nl_5, nl_6, nl_1, nl_7, Nat.reduceAdd, Nat.reduceLT]) (wg_da dt_X12_init_8 56 rfl) (by decide) rfl rfl ?_
  refine wk_dup (wg_da dt_X12_init_8 57 rfl) ?_
  refine wk_bipush (124 : Int32) (wg_da dt_X12_init_8 58 rfl) (by decide) ?_
  refine wk_bipush (104 : Int32) (wg_da dt_X12_init_8 59 rfl) (by decide) ?_
  refine wk_iastT (j := 124) (by simp only [List.length_append, List.length_cons, List.length_nil, nl_9, nl_2, nl_0, nl_4, nl_3, nl_8, nl_10, nl_5, nl_6, nl_1, nl_7, Nat.reduceAdd, Nat.reduceLT]) (wg_da dt_X12_init_9 0 rfl) (by decide) rfl rfl ?_
  refine wk_dup (wg_da dt_X12_init_9 1 rfl) ?_
  refine wk_bipush (125 : Int32) (wg_da dt_X12_init_9 2 rfl) (by decide) ?_
  refine wk_bipush (32 : Int32) (wg_da dt_X12_init_9 3 rfl) (by decide) ?_
  refine wk_iastT (j := 125) (by simp only [List.length_append, List.length_cons, List.length_nil, nl_9, nl_2, nl_0, nl_4, nl_3, nl_8, nl_10, nl_5, nl_6, nl_1, nl_7, Nat.reduceAdd, Nat.reduceLT]) (wg_da dt_X12_init_9 4 rfl) (by decide) rfl rfl ?_
  refine wk_dup (wg_da dt_X12_init_9 5 rfl) ?_
  refine wk_bipush (126 : Int32) (wg_da dt_X12_init_9 6 rfl) (by decide) ?_
  refine wk_bipush (111 : Int32) (wg_da dt_X12_init_9 7 rfl) (by decide) ?_
  refine wk_iastT (j := 126) (by simp only [List.length_append, List.length_cons, List.length_nil, nl_9, nl_2, nl_0, nl_4, nl_3, nl_8, nl_10, nl_5, nl_6, nl_1, nl_7, Nat.reduceAdd, Nat.reduceLT]) (wg_da dt_X12_init_9 8 rfl) (by decide) rfl rfl ?_
  refine wk_dup (wg_da dt_X12_init_9 9 rfl) ?_
  refine wk_bipush (127 : Int32) (wg_da dt_X12_init_9 10 rfl) (by decide) ?_
  refine wk_bipush (102 : Int32) (wg_da dt_X12_init_9 11 rfl) (by decide) ?_
  refine wk_iastT (j := 127) (by simp only [List.length_append, List.length_cons, List.length_nil, nl_9, nl_2, nl_0, nl_4, nl_3, nl_8, nl_10, nl_5, nl_6, nl_1, nl_7, Nat.reduceAdd, Nat.reduceLT]) (wg_da dt_X12_init_9 12 rfl) (by decide) rfl rfl ?_
  refine wk_dup (wg_da dt_X12_init_9 13 rfl) ?_
  refine wk_sipush (128 : Int32) (wg_da dt_X12_init_9 14 rfl) (by decide) ?_
  refine wk_bipush (32 : Int32) (wg_da dt_X12_init_9 15 rfl) (by decide) ?_
  refine wk_iastT (j := 128) (by simp only [List.length_append, List.length_cons, List.length_nil, nl_9, nl_2, nl_0, nl_4, nl_3, nl_8, nl_10, nl_5, nl_6, nl_1, nl_7, Nat.reduceAdd, Nat.reduceLT]) (wg_da dt_X12_init_9 16 rfl) (by decide) rfl rfl ?_
  refine wk_putRk wcf_X12_37 (wg_da dt_X12_init_9 17 rfl) hk (by first | (simp only [List.length_set]; decide) | decide) (Nat.add_lt_add_left (by simp only [List.length_append, List.length_cons, List.length_nil, nl_9, nl_2, nl_0, nl_4, nl_3, nl_8, nl_10, nl_5, nl_6, nl_1, nl_7, Nat.reduceAdd, Nat.reduceLT]) _) ?_
  refine wk_aload_n (wg_da dt_X12_init_9 18 rfl) rfl ?_
  refine wk_iconst (2 : Int32) (wg_da dt_X12_init_9 19 rfl) (by decide) ?_
  refine wk_newaK 2 10 (wg_da dt_X12_init_9 20 rfl) wq_arr (by decide) (by decide) (by decide) (by simp only [List.length_append, List.length_cons, List.length_nil, nl_9, nl_2, nl_0, nl_4, nl_3, nl_8, nl_10, nl_5, nl_6, nl_1, nl_7, Nat.reduceAdd, Nat.reduceLT]) (by decide) (by decide) (And.intro (Nat.lt_add_right _ hk) trivial) (And.intro (Nat.lt_add_right _ hk) trivial) (Nat.le_add_right _ _) ?_
  refine wk_putRk wcf_X12_40 (wg_da dt_X12_init_9 21 rfl) hk (by first | (simp only [List.length_set]; decide) | decide) (Nat.add_lt_add_left (by simp only [List.length_append, List.length_cons, List.length_nil, nl_9, nl_2, nl_0, nl_4, nl_3, nl_8, nl_10, nl_5, nl_6, nl_1, nl_7, Nat.reduceAdd, Nat.reduceLT]) _) ?_
  refine wk_aload_n (wg_da dt_X12_init_9 22 rfl) rfl ?_
  refine wk_bipush (48 : Int32) (wg_da dt_X12_init_9 23 rfl) (by decide) ?_
  refine wk_newaK 48 11 (wg_da dt_X12_init_9 24 rfl) wq_arr (by decide) (by decide) (by decide) (by simp only [List.length_append, List.length_cons, List.length_nil, nl_9, nl_2, nl_0, nl_4, nl_3, nl_8, nl_10, nl_5, nl_6, nl_1, nl_7, Nat.reduceAdd, Nat.reduceLT]) (by decide) (by decide) (And.intro (Nat.lt_add_right _ hk) trivial) (And.intro (Nat.lt_add_right _ hk) trivial) (Nat.le_add_right _ _) ?_
  refine wk_putRk wcf_X12_43 (wg_da dt_X12_init_9 25 rfl) hk (by first | (simp only [List.length_set]; decide) | decide) (Nat.add_lt_add_left (by simp only [List.length_append, List.length_cons, List.length_nil, nl_9, nl_2, nl_0, nl_4, nl_3, nl_8, nl_10, nl_5, nl_6, nl_1, nl_7, Nat.reduceAdd, Nat.reduceLT]) _) ?_
  refine wk_aload_n (wg_da dt_X12_init_9 26 rfl) rfl ?_
  refine wk_bipush (48 : Int32) (wg_da dt_X12_init_9 27 rfl) (by decide) ?_
  refine wk_newaK 48 12 (wg_da dt_X12_init_9 28 rfl) wq_arr (by decide) (by decide) (by decide) (by simp only [List.length_append, List.length_cons, List.length_nil, nl_9, nl_2, nl_0, nl_4, nl_3, nl_8, nl_10, nl_5, nl_6, nl_1, nl_7, Nat.reduceAdd, Nat.reduceLT]) (by decide) (by decide) (And.intro (Nat.lt_add_right _ hk) trivial) (And.intro (Nat.lt_add_right _ hk) trivial) (Nat.le_add_right _ _) ?_
  refine wk_putRk wcf_X12_46 (wg_da dt_X12_init_9 29 rfl) hk (by first | (simp only [List.length_set]; decide) | decide) (Nat.add_lt_add_left (by simp only [List.length_append, List.length_cons, List.length_nil, nl_9, nl_2, nl_0, nl_4, nl_3, nl_8, nl_10, nl_5, nl_6, nl_1, nl_7, Nat.reduceAdd, Nat.reduceLT]) _) ?_
  refine wk_aload_n (wg_da dt_X12_init_9 30 rfl) rfl ?_
  refine wk_bipush (48 : Int32) (wg_da dt_X12_init_9 31 rfl) (by decide) ?_
  refine wk_newaK 48 13 (wg_da dt_X12_init_9 32 rfl) wq_arr (by decide) (by decide) (by decide) (by simp only [List.length_append, List.length_cons, List.length_nil, nl_9, nl_2, nl_0, nl_4, nl_3, nl_8, nl_10, nl_5, nl_6, nl_1, nl_7, Nat.reduceAdd, Nat.reduceLT]) (by decide) (by decide) (And.intro (Nat.lt_add_right _ hk) trivial) (And.intro (Nat.lt_add_right _ hk) trivial) (Nat.le_add_right _ _) ?_
  refine wk_putRk wcf_X12_49 (wg_da dt_X12_init_9 33 rfl) hk (by first | (simp only [List.length_set]; decide) | decide) (Nat.add_lt_add_left (by simp only [List.length_append, List.length_cons, List.length_nil, nl_9, nl_2, nl_0, nl_4, nl_3, nl_8, nl_10, nl_5, nl_6, nl_1, nl_7, Nat.reduceAdd, Nat.reduceLT]) _) ?_
  refine wk_aload_n (wg_da dt_X12_init_9 34 rfl) rfl ?_
  refine wk_bipush (48 : Int32) (wg_da dt_X12_init_9 35 rfl) (by decide) ?_
  refine wk_newaK 48 14 (wg_da dt_X12_init_9 36 rfl) wq_arr (by decide) (by decide) (by decide) (by simp only [List.length_append, List.length_cons, List.length_nil, nl_9, nl_2, nl_0, nl_4, nl_3, nl_8, nl_10, nl_5, nl_6, nl_1, nl_7, Nat.reduceAdd, Nat.reduceLT]) (by decide) (by decide) (And.intro (Nat.lt_add_right _ hk) trivial) (And.intro (Nat.lt_add_right _ hk) trivial) (Nat.le_add_right _ _) ?_
  refine wk_putRk wcf_X12_52 (wg_da dt_X12_init_9 37 rfl) hk (by first | (simp only [List.length_set]; decide) | decide) (Nat.add_lt_add_left (by simp only [List.length_append, List.length_cons, List.length_nil, nl_9, nl_2, nl_0, nl_4, nl_3, nl_8, nl_10, nl_5, nl_6, nl_1, nl_7, Nat.reduceAdd, Nat.reduceLT]) _) ?_
  refine wk_aload_n (wg_da dt_X12_init_9 38 rfl) rfl ?_
  refine wk_sipush (1200 : Int32) (wg_da dt_X12_init_9 39 rfl) (by decide) ?_
  refine wk_newaK 1200 15 (wg_da dt_X12_init_9 40 rfl) wq_arr (by decide) (by decide) (by decide) (by simp only [List.length_append, List.length_cons, List.length_nil, nl_9, nl_2, nl_0, nl_4, nl_3, nl_8, nl_10, nl_5, nl_6, nl_1, nl_7, Nat.reduceAdd, Nat.reduceLT]) (by decide) (by decide) (And.intro (Nat.lt_add_right _ hk) trivial) (And.intro (Nat.lt_add_right _ hk) trivial) (Nat.le_add_right _ _) ?_
  refine wk_putRk wcf_X12_55 (wg_da dt_X12_init_9 41 rfl) hk (by first | (simp only [List.length_set]; decide) | decide) (Nat.add_lt_add_left (by simp only [List.length_append, List.length_cons, List.length_nil, nl_9, nl_2, nl_0, nl_4, nl_3, nl_8, nl_10, nl_5, nl_6, nl_1, nl_7, Nat.reduceAdd, Nat.reduceLT]) _) ?_
  refine wk_aload_n (wg_da dt_X12_init_9 42 rfl) rfl ?_
  refine wk_sipush (1200 : Int32) (wg_da dt_X12_init_9 43 rfl) (by decide) ?_
  refine wk_newaK 1200 16 (wg_da dt_X12_init_9 44 rfl) wq_arr (by decide) (by decide) (by decide) (by simp only [List.length_append, List.length_cons, List.length_nil, nl_9, nl_2, nl_0, nl_4, nl_3, nl_8, nl_10, nl_5, nl_6, nl_1, nl_7, Nat.reduceAdd, Nat.reduceLT]) (by decide) (by decide) (And.intro (Nat.lt_add_right _ hk) trivial) (And.intro (Nat.lt_add_right _ hk) trivial) (Nat.le_add_right _ _) ?_
  refine wk_putRk wcf_X12_58 (wg_da dt_X12_init_9 45 rfl) hk (by first | (simp only [List.length_set]; decide) | decide) (Nat.add_lt_add_left (by simp only [List.length_append, List.length_cons, List.length_nil, nl_9, nl_2, nl_0, nl_4, nl_3, nl_8, nl_10, nl_5, nl_6, nl_1, nl_7, Nat.reduceAdd, Nat.reduceLT]) _) ?_
  refine wk_aload_n (wg_da dt_X12_init_9 46 rfl) rfl ?_
  refine wk_bipush (40 : Int32) (wg_da dt_X12_init_9 47 rfl) (by decide) ?_
  refine wk_newaK 40 17 (wg_da dt_X12_init_9 48 rfl) wq_arr (by decide) (by decide) (by decide) (by simp only [List.length_append, List.length_cons, List.length_nil, nl_9, nl_2, nl_0, nl_4, nl_3, nl_8, nl_10, nl_5, nl_6, nl_1, nl_7, Nat.reduceAdd, Nat.reduceLT]) (by decide) (by decide) (And.intro (Nat.lt_add_right _ hk) trivial) (And.intro (Nat.lt_add_right _ hk) trivial) (Nat.le_add_right _ _) ?_
  refine wk_putRk wcf_X12_61 (wg_da dt_X12_init_9 49 rfl) hk (by first | (simp only [List.length_set]; decide) | decide) (Nat.add_lt_add_left (by simp only [List.length_append, List.length_cons, List.length_nil, nl_9, nl_2, nl_0, nl_4, nl_3, nl_8, nl_10, nl_5, nl_6, nl_1, nl_7, Nat.reduceAdd, Nat.reduceLT]) _) ?_
  refine wk_aload_n (wg_da dt_X12_init_9 50 rfl) rfl ?_
  refine wk_iconst (-1 : Int32) (wg_da dt_X12_init_9 51 rfl) (by decide) ?_
  refine wk_putIk wfp_X12_64 (wg_da dt_X12_init_9 52 rfl) hk (by first | (simp only [List.length_set]; decide) | decide) ?_
  refine wk_aload_n (wg_da dt_X12_init_9 53 rfl) rfl ?_
  refine wk_bipush (96 : Int32) (wg_da dt_X12_init_9 54 rfl) (by decide) ?_
  refine wk_newaK 96 18 (wg_da dt_X12_init_9 55 rfl) wq_arr (by decide) (by decide) (by decide) (by simp only [List.length_append, List.length_cons, List.length_nil, nl_9, nl_2, nl_0, nl_4, nl_3, nl_8, nl_10, nl_5, nl_6, nl_1, nl_7, Nat.reduceAdd, Nat.reduceLT]) (by decide) (by decide) (And.intro (Nat.lt_add_right _ hk) trivial) (And.intro (Nat.lt_add_right _ hk) trivial) (Nat.le_add_right _ _) ?_
  refine wk_putRk wcf_X12_68 (wg_da dt_X12_init_9 56 rfl) hk (by first | (simp only [List.length_set]; decide) | decide) (Nat.add_lt_add_left (by simp only [List.length_append, List.length_cons, List.length_nil, nl_9, nl_2, nl_0, nl_4, nl_3, nl_8, nl_10, nl_5, nl_6, nl_1, nl_7, Nat.reduceAdd, Nat.reduceLT]) _) ?_
  refine wk_aload_n (wg_da dt_X12_init_9 57 rfl) rfl ?_
  refine wk_sipush (128 : Int32) (wg_da dt_X12_init_9 58 rfl) (by decide) ?_
  refine wk_newaK 128 19 (wg_da dt_X12_init_9 59 rfl) wq_arr (by decide) (by decide) (by decide) (by simp only [List.length_append, List.length_cons, List.length_nil, nl_9, nl_2, nl_0, nl_4, nl_3, nl_8, nl_10, nl_5, nl_6, nl_1, nl_7, Nat.reduceAdd, Nat.reduceLT]) (by decide) (by decide) (And.intro (Nat.lt_add_right _ hk) trivial) (And.intro (Nat.lt_add_right _ hk) trivial) (Nat.le_add_right _ _) ?_
  refine wk_putRk wcf_X12_71 (wg_da dt_X12_init_10 0 rfl) hk (by first | (simp only [List.length_set]; decide) | decide) (Nat.add_lt_add_left (by simp only [List.length_append, List.length_cons, List.length_nil, nl_9, nl_2, nl_0, nl_4, nl_3, nl_8, nl_10, nl_5, nl_6, nl_1, nl_7, Nat.reduceAdd, Nat.reduceLT]) _) ?_
  refine wk_aload_n (wg_da dt_X12_init_10 1 rfl) rfl ?_
  refine wk_bipush (16 : Int32) (wg_da dt_X12_init_10 2 rfl) (by decide) ?_
  refine wk_newaK 16 20 (wg_da dt_X12_init_10 3 rfl) wq_arr (by decide) (by decide) (by decide) (by simp only [List.length_append, List.length_cons, List.length_nil, nl_9, nl_2, nl_0, nl_4, nl_3, nl_8, nl_10, nl_5, nl_6, nl_1, nl_7, Nat.reduceAdd, Nat.reduceLT]) (by decide) (by decide) (And.intro (Nat.lt_add_right _ hk) trivial) (And.intro (Nat.lt_add_right _ hk) trivial) (Nat.le_add_right _ _) ?_
  refine wk_putRk wcf_X12_74 (wg_da dt_X12_init_10 4 rfl) hk (by first | (simp only [List.length_set]; decide) | decide) (Nat.add_lt_add_left (by simp only [List.length_append, List.length_cons, List.length_nil, nl_9, nl_2, nl_0, nl_4, nl_3, nl_8, nl_10, nl_5, nl_6, nl_1, nl_7, Nat.reduceAdd, Nat.reduceLT]) _) ?_
  refine wk_aload_n (wg_da dt_X12_init_10 5 rfl) rfl ?_
  refine wk_bipush (10 : Int32) (wg_da dt_X12_init_10 6 rfl) (by decide) ?_
  refine wk_newaK 10 21 (wg_da dt_X12_init_10 7 rfl) wq_arr (by decide) (by decide) (by decide) (by simp only [List.length_append, List.length_cons, List.length_nil, nl_9, nl_2, nl_0, nl_4, nl_3, nl_8, nl_10, nl_5, nl_6, nl_1, nl_7, Nat.reduceAdd, Nat.reduceLT]) (by decide) (by decide) (And.intro (Nat.lt_add_right _ hk) trivial) (And.intro (Nat.lt_add_right _ hk) trivial) (Nat.le_add_right _ _) ?_
  refine wk_putRk wcf_X12_77 (wg_da dt_X12_init_10 8 rfl) hk (by first | (simp only [List.length_set]; decide) | decide) (Nat.add_lt_add_left (by simp only [List.length_append, List.length_cons, List.length_nil, nl_9, nl_2, nl_0, nl_4, nl_3, nl_8, nl_10, nl_5, nl_6, nl_1, nl_7, Nat.reduceAdd, Nat.reduceLT]) _) ?_
  refine wk_aload_n (wg_da dt_X12_init_10 9 rfl) rfl ?_
  refine wk_sipush (420 : Int32) (wg_da dt_X12_init_10 10 rfl) (by decide) ?_
  refine wk_newaK 420 22 (wg_da dt_X12_init_10 11 rfl) wq_arr (by decide) (by decide) (by decide) (by simp only [List.length_append, List.length_cons, List.length_nil, nl_9, nl_2, nl_0, nl_4, nl_3, nl_8, nl_10, nl_5, nl_6, nl_1, nl_7, Nat.reduceAdd, Nat.reduceLT]) (by decide) (by decide) (And.intro (Nat.lt_add_right _ hk) trivial) (And.intro (Nat.lt_add_right _ hk) trivial) (Nat.le_add_right _ _) ?_
  refine wk_putRk wcf_X12_80 (wg_da dt_X12_init_10 12 rfl) hk (by first | (simp only [List.length_set]; decide) | decide) (Nat.add_lt_add_left (by simp only [List.length_append, List.length_cons, List.length_nil, nl_9, nl_2, nl_0, nl_4, nl_3, nl_8, nl_10, nl_5, nl_6, nl_1, nl_7, Nat.reduceAdd, Nat.reduceLT]) _) ?_
  refine wk_aload_n (wg_da dt_X12_init_10 13 rfl) rfl ?_
  refine wk_bipush (8 : Int32) (wg_da dt_X12_init_10 14 rfl) (by decide) ?_
  refine wk_newaK 8 23 (wg_da dt_X12_init_10 15 rfl) wq_arr (by decide) (by decide) (by decide) (by simp only [List.length_append, List.length_cons, List.length_nil, nl_9, nl_2, nl_0, nl_4, nl_3, nl_8, nl_10, nl_5, nl_6, nl_1, nl_7, Nat.reduceAdd, Nat.reduceLT]) (by decide) (by decide) (And.intro (Nat.lt_add_right _ hk) trivial) (And.intro (Nat.lt_add_right _ hk) trivial) (Nat.le_add_right _ _) ?_
  refine wk_putRk wcf_X12_83 (wg_da dt_X12_init_10 16 rfl) hk (by first | (simp only [List.length_set]; decide) | decide) (Nat.add_lt_add_left (by simp only [List.length_append, List.length_cons, List.length_nil, nl_9, nl_2, nl_0, nl_4, nl_3, nl_8, nl_10, nl_5, nl_6, nl_1, nl_7, Nat.reduceAdd, Nat.reduceLT]) _) ?_
  refine wk_aload_n (wg_da dt_X12_init_10 17 rfl) rfl ?_
  refine wk_bipush (8 : Int32) (wg_da dt_X12_init_10 18 rfl) (by decide) ?_
  refine wk_newaK 8 24 (wg_da dt_X12_init_10 19 rfl) wq_arr (by decide) (by decide) (by decide) (by simp only [List.length_append, List.length_cons, List.length_nil, nl_9, nl_2, nl_0, nl_4, nl_3, nl_8, nl_10, nl_5, nl_6, nl_1, nl_7, Nat.reduceAdd, Nat.reduceLT]) (by decide) (by decide) (And.intro (Nat.lt_add_right _ hk) trivial) (And.intro (Nat.lt_add_right _ hk) trivial) (Nat.le_add_right _ _) ?_
  refine wk_putRk wcf_X12_86 (wg_da dt_X12_init_10 20 rfl) hk (by first | (simp only [List.length_set]; decide) | decide) (Nat.add_lt_add_left (by simp only [List.length_append, List.length_cons, List.length_nil, nl_9, nl_2, nl_0, nl_4, nl_3, nl_8, nl_10, nl_5, nl_6, nl_1, nl_7, Nat.reduceAdd, Nat.reduceLT]) _) ?_
  refine wk_aload_n (wg_da dt_X12_init_10 21 rfl) rfl ?_
  refine wk_bipush (8 : Int32) (wg_da dt_X12_init_10 22 rfl) (by decide) ?_
  refine wk_newaK 8 25 (wg_da dt_X12_init_10 23 rfl) wq_arr (by decide) (by decide) (by decide) (by simp only [List.length_append, List.length_cons, List.length_nil, nl_9, nl_2, nl_0, nl_4, nl_3, nl_8, nl_10, nl_5, nl_6, nl_1, nl_7, Nat.reduceAdd, Nat.reduceLT]) (by decide) (by decide) (And.intro (Nat.lt_add_right _ hk) trivial) (And.intro (Nat.lt_add_right _ hk) trivial) (Nat.le_add_right _ _) ?_
  refine wk_putRk wcf_X12_89 (wg_da dt_X12_init_10 24 rfl) hk (by first | (simp only [List.length_set]; decide) | decide) (Nat.add_lt_add_left (by simp only [List.length_append, List.length_cons, List.length_nil, nl_9, nl_2, nl_0, nl_4, nl_3, nl_8, nl_10, nl_5, nl_6, nl_1, nl_7, Nat.reduceAdd, Nat.reduceLT]) _) ?_
  refine wk_aload_n (wg_da dt_X12_init_10 25 rfl) rfl ?_
  refine wk_bipush (14 : Int32) (wg_da dt_X12_init_10 26 rfl) (by decide) ?_
  refine wk_newaK 14 26 (wg_da dt_X12_init_10 27 rfl) wq_arr (by decide) (by decide) (by decide) (by simp only [List.length_append, List.length_cons, List.length_nil, nl_9, nl_2, nl_0, nl_4, nl_3, nl_8, nl_10, nl_5, nl_6, nl_1, nl_7, Nat.reduceAdd, Nat.reduceLT]) (by decide) (by decide) (And.intro (Nat.lt_add_right _ hk) trivial) (And.intro (Nat.lt_add_right _ hk) trivial) (Nat.le_add_right _ _) ?_
  refine wk_putRk wcf_X12_92 (wg_da dt_X12_init_10 28 rfl) hk (by first | (simp only [List.length_set]; decide) | decide) (Nat.add_lt_add_left (by simp only [List.length_append, List.length_cons, List.length_nil, nl_9, nl_2, nl_0, nl_4, nl_3, nl_8, nl_10, nl_5, nl_6, nl_1, nl_7, Nat.reduceAdd, Nat.reduceLT]) _) ?_
  refine wk_aload_n (wg_da dt_X12_init_10 29 rfl) rfl ?_
  refine wk_bipush (14 : Int32) (wg_da dt_X12_init_10 30 rfl) (by decide) ?_
  refine wk_newaK 14 27 (wg_da dt_X12_init_10 31 rfl) wq_arr (by decide) (by decide) (by decide) (by simp only [List.length_append, List.length_cons, List.length_nil, nl_9, nl_2, nl_0, nl_4, nl_3, nl_8, nl_10, nl_5, nl_6, nl_1, nl_7, Nat.reduceAdd, Nat.reduceLT]) (by decide) (by decide) (And.intro (Nat.lt_add_right _ hk) trivial) (And.intro (Nat.lt_add_right _ hk) trivial) (Nat.le_add_right _ _) ?_
  refine wk_putRk wcf_X12_95 (wg_da dt_X12_init_10 32 rfl) hk (by first | (simp only [List.length_set]; decide) | decide) (Nat.add_lt_add_left (by simp only [List.length_append, List.length_cons, List.length_nil, nl_9, nl_2, nl_0, nl_4, nl_3, nl_8, nl_10, nl_5, nl_6, nl_1, nl_7, Nat.reduceAdd, Nat.reduceLT]) _) ?_
  refine wk_aload_n (wg_da dt_X12_init_10 33 rfl) rfl ?_
  refine wk_bipush (20 : Int32) (wg_da dt_X12_init_10 34 rfl) (by decide) ?_
  refine wk_newaK 20 28 (wg_da dt_X12_init_10 35 rfl) wq_arr (by decide) (by decide) (by decide) (by simp only [List.length_append, List.length_cons, List.length_nil, nl_9, nl_2, nl_0, nl_4, nl_3, nl_8, nl_10, nl_5, nl_6, nl_1, nl_7, Nat.reduceAdd, Nat.reduceLT]) (by decide) (by decide) (And.intro (Nat.lt_add_right _ hk) trivial) (And.intro (Nat.lt_add_right _ hk) trivial) (Nat.le_add_right _ _) ?_
  refine wk_putRk wcf_X12_98 (wg_da dt_X12_init_10 36 rfl) hk (by first | (simp only [List.length_set]; decide) | decide) (Nat.add_lt_add_left (by simp only [List.length_append, List.length_cons, List.length_nil, nl_9, nl_2, nl_0, nl_4, nl_3, nl_8, nl_10, nl_5, nl_6, nl_1, nl_7, Nat.reduceAdd, Nat.reduceLT]) _) ?_
  refine wk_aload_n (wg_da dt_X12_init_10 37 rfl) rfl ?_
  refine wk_bipush (7 : Int32) (wg_da dt_X12_init_10 38 rfl) (by decide) ?_
  refine wk_newaK 7 29 (wg_da dt_X12_init_10 39 rfl) wq_arr (by decide) (by decide) (by decide) (by simp only [List.length_append, List.length_cons, List.length_nil, nl_9, nl_2, nl_0, nl_4, nl_3, nl_8, nl_10, nl_5, nl_6, nl_1, nl_7, Nat.reduceAdd, Nat.reduceLT]) (by decide) (by decide) (And.intro (Nat.lt_add_right _ hk) trivial) (And.intro (Nat.lt_add_right _ hk) trivial) (Nat.le_add_right _ _) ?_
  refine wk_putRk wcf_X12_101 (wg_da dt_X12_init_10 40 rfl) hk (by first | (simp only [List.length_set]; decide) | decide) (Nat.add_lt_add_left (by simp only [List.length_append, List.length_cons, List.length_nil, nl_9, nl_2, nl_0, nl_4, nl_3, nl_8, nl_10, nl_5, nl_6, nl_1, nl_7, Nat.reduceAdd, Nat.reduceLT]) _) ?_
  refine wk_aload_n (wg_da dt_X12_init_10 41 rfl) rfl ?_
  refine wk_bipush (7 : Int32) (wg_da dt_X12_init_10 42 rfl) (by decide) ?_
  refine wk_newaK 7 30 (wg_da dt_X12_init_10 43 rfl) wq_arr (by decide) (by decide) (by decide) (by simp only [List.length_append, List.length_cons, List.length_nil, nl_9, nl_2, nl_0, nl_4, nl_3, nl_8, nl_10, nl_5, nl_6, nl_1, nl_7, Nat.reduceAdd, Nat.reduceLT]) (by decide) (by decide) (And.intro (Nat.lt_add_right _ hk) trivial) (And.intro (Nat.lt_add_right _ hk) trivial) (Nat.le_add_right _ _) ?_
  refine wk_putRk wcf_X12_104 (wg_da dt_X12_init_10 44 rfl) hk (by first | (simp only [List.length_set]; decide) | decide) (Nat.add_lt_add_left (by simp only [List.length_append, List.length_cons, List.length_nil, nl_9, nl_2, nl_0, nl_4, nl_3, nl_8, nl_10, nl_5, nl_6, nl_1, nl_7, Nat.reduceAdd, Nat.reduceLT]) _) ?_
  refine wk_aload_n (wg_da dt_X12_init_10 45 rfl) rfl ?_
  refine wk_sipush (128 : Int32) (wg_da dt_X12_init_10 46 rfl) (by decide) ?_
  refine wk_newaK 128 31 (wg_da dt_X12_init_10 47 rfl) wq_arr (by decide) (by decide) (by decide) (by simp only [List.length_append, List.length_cons, List.length_nil, nl_9, nl_2, nl_0, nl_4, nl_3, nl_8, nl_10, nl_5, nl_6, nl_1, nl_7, Nat.reduceAdd, Nat.reduceLT]) (by decide) (by decide) (And.intro (Nat.lt_add_right _ hk) trivial) (And.intro (Nat.lt_add_right _ hk) trivial) (Nat.le_add_right _ _) ?_
  refine wk_putRk wcf_X12_107 (wg_da dt_X12_init_10 48 rfl) hk (by first | (simp only [List.length_set]; decide) | decide) (Nat.add_lt_add_left (by simp only [List.length_append, List.length_cons, List.length_nil, nl_9, nl_2, nl_0, nl_4, nl_3, nl_8, nl_10, nl_5, nl_6, nl_1, nl_7, Nat.reduceAdd, Nat.reduceLT]) _) ?_
  refine wk_aload_n (wg_da dt_X12_init_10 49 rfl) rfl ?_
  refine wk_sipush (2300 : Int32) (wg_da dt_X12_init_10 50 rfl) (by decide) ?_
  refine wk_newaK 2300 32 (wg_da dt_X12_init_10 51 rfl) wq_arr (by decide) (by decide) (by decide) (by simp only [List.length_append, List.length_cons, List.length_nil, nl_9, nl_2, nl_0, nl_4, nl_3, nl_8, nl_10, nl_5, nl_6, nl_1, nl_7, Nat.reduceAdd, Nat.reduceLT]) (by decide) (by decide) (And.intro (Nat.lt_add_right _ hk) trivial) (And.intro (Nat.lt_add_right _ hk) trivial) (Nat.le_add_right _ _) ?_
  refine wk_putRk wcf_X12_110 (wg_da dt_X12_init_10 52 rfl) hk (by first | (simp only [List.length_set]; decide) | decide) (Nat.add_lt_add_left (by simp only [List.length_append, List.length_cons, List.length_nil, nl_9, nl_2, nl_0, nl_4, nl_3, nl_8, nl_10, nl_5, nl_6, nl_1, nl_7, Nat.reduceAdd, Nat.reduceLT]) _) ?_
  exact wk_ret (wg_da dt_X12_init_10 53 rfl) (by decide) (by decide)

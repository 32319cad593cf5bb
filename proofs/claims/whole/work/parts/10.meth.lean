abbrev rm_J9_min_7cf53 : Room := { frames := 0, cells := 0, slots := 0, locals := 0 }
def tb_J9_min_7cf53 : List (Nat × Instr × Nat) := [(0, .iload_n 0, 1), (1, .iload_n 1, 1), (2, .if_icmp .gt 7, 3), (5, .iload_n 0, 1), (6, .goto 4, 3), (9, .iload_n 1, 1), (10, .ireturn, 1)]
theorem dt_J9_min_7cf53 : wg_dc cJ9_min_7cf53 tb_J9_min_7cf53 := by unfold wg_dc; decide +kernel
def f_J9_min_7cf53  (x0 : Int32) (x1 : Int32) (σ : wg_M) : Option (Int32 × wg_M) := if x1 < x0 then (some (x1, σ)) else (some (x0, σ))
set_option maxRecDepth 20000 in
theorem g_J9_min_7cf53_e (l : Launch) (E : wg_E)  (x0 : Int32) (x1 : Int32) (σ : wg_M) (z : Int32 × wg_M)  (h : f_J9_min_7cf53  x0 x1 σ = some z) : wg_G l E Sc "java/lang/Math" cJ9_min_7cf53 2 (some .int) rm_J9_min_7cf53 (some z.1) z.2 0 [some (.int x0), some (.int x1)] [] σ := by
  refine wr_iload_n (wg_da dt_J9_min_7cf53 0 rfl) rfl ?_
  refine wr_iload_n (wg_da dt_J9_min_7cf53 1 rfl) rfl ?_
  refine wr_icmp_gt 9 (wg_da dt_J9_min_7cf53 2 rfl) (by decide) h (fun h => ?_) (fun h => ?_)
  · refine wr_iload_n (wg_da dt_J9_min_7cf53 5 rfl) rfl ?_
    exact wr_iret (wg_da dt_J9_min_7cf53 6 rfl) h
  · refine wr_iload_n (wg_da dt_J9_min_7cf53 3 rfl) rfl ?_
    refine wr_goto 10 (wg_da dt_J9_min_7cf53 4 rfl) (by decide) ?_
    exact wr_iret (wg_da dt_J9_min_7cf53 6 rfl) h
theorem m_J9_min_7cf53 (l : Launch) (E : wg_E) (x0 : Int32) (x1 : Int32)  (σ : wg_M) (q : Int32 × wg_M) (h : f_J9_min_7cf53 x0 x1 σ = some q) : wg_MG l E Sc yJ9_min_7cf53 cJ9_min_7cf53 2 (some .int) rm_J9_min_7cf53 [.int x0, .int x1] σ (some q.1) q.2 :=
  wg_met [.int x0, .int x1] (by decide +kernel) (Nat.le_of_ble_eq_true rfl) (g_J9_min_7cf53_e l E x0 x1 σ q  h)
abbrev rm_X11_copyRow : Room := { frames := 1, cells := 0, slots := 0, locals := 40 }
def tb_X11_copyRow : List (Nat × Instr × Nat) := [(0, .aload_n 0, 1), (1, .iconst 0, 1), (2, .aload_n 1, 1), (3, .iconst 0, 1), (4, .aload_n 0, 1), (5, .arraylength, 1), (6, .aload_n 1, 1), (7, .arraylength, 1), (8, .invokestatic 399, 3), (11, .invokestatic 407, 3), (14, .return_, 1)]
theorem dt_X11_copyRow : wg_dc cX11_copyRow tb_X11_copyRow := by unfold wg_dc; decide +kernel
def f_X11_copyRow  (x0 : Nat) (x1 : Nat) (σ : wg_M) : Option (Int32 × wg_M) := wg_bd (f_J9_min_7cf53 (Int32.ofNat (wg_n Sc x0)) (Int32.ofNat (wg_n Sc x1)) σ) (fun v1 s2 => wg_cp Sc s2 x0 (0 : Int32) x1 (0 : Int32) v1 (fun s3 => some (0, s3)))
set_option maxRecDepth 20000 in
theorem g_X11_copyRow_e (l : Launch) (E : wg_E)  (x0 : Nat) (x1 : Nat) (σ : wg_M) (z : Int32 × wg_M) (hx0 : wg_t Sc x0 = 0) (hx1 : wg_t Sc x1 = 0) (h : f_X11_copyRow  x0 x1 σ = some z) : wg_G l E Sc "WornWigs" cX11_copyRow 2 none rm_X11_copyRow none z.2 0 [some (.ref x0), some (.ref x1)] [] σ := by
  refine wr_aload_n (wg_da dt_X11_copyRow 0 rfl) rfl ?_
  refine wr_iconst (0 : Int32) (wg_da dt_X11_copyRow 1 rfl) (by decide) ?_
  refine wr_aload_n (wg_da dt_X11_copyRow 2 rfl) rfl ?_
  refine wr_iconst (0 : Int32) (wg_da dt_X11_copyRow 3 rfl) (by decide) ?_
  refine wr_aload_n (wg_da dt_X11_copyRow 4 rfl) rfl ?_
  refine wr_alen (Int32.ofNat (wg_n Sc x0)) (wg_da dt_X11_copyRow 5 rfl) hx0 rfl ?_
  refine wr_aload_n (wg_da dt_X11_copyRow 6 rfl) rfl ?_
  refine wr_alen (Int32.ofNat (wg_n Sc x1)) (wg_da dt_X11_copyRow 7 rfl) hx1 rfl ?_
  refine wr_callSi [.int (Int32.ofNat (wg_n Sc x0)), .int (Int32.ofNat (wg_n Sc x1))] [.int (0 : Int32), .ref x1, .int (0 : Int32), .ref x0] (wg_da dt_X11_copyRow 8 rfl) ⟨wq_3_145, wq_3_98⟩ wy_J9_min_7cf53 (fun q hq => m_J9_min_7cf53 l E (Int32.ofNat (wg_n Sc x0)) (Int32.ofNat (wg_n Sc x1))  _ q hq) rfl rfl (Nat.le_of_ble_eq_true rfl) ⟨rfl, rfl, by decide, by decide⟩ h (fun v1 s2 h => ?_)
  refine wr_copy (wg_da dt_X11_copyRow 9 rfl) ⟨wq_3_146, wq_3_148, wq_3_147, wq_1_16⟩ hx0 hx1 (by decide) (by decide) h (fun s3 h => ?_)
  exact wr_vret (wg_da dt_X11_copyRow 10 rfl) h
theorem m_X11_copyRow (l : Launch) (E : wg_E) (x0 : Nat) (x1 : Nat) (hx0 : wg_t Sc x0 = 0) (hx1 : wg_t Sc x1 = 0) (σ : wg_M) (q : Int32 × wg_M) (h : f_X11_copyRow x0 x1 σ = some q) : wg_MG l E Sc yX11_copyRow cX11_copyRow 2 none rm_X11_copyRow [.ref x0, .ref x1] σ none q.2 :=
  wg_met [.ref x0, .ref x1] (plainFor_of_name (by decide)) (Nat.le_of_ble_eq_true rfl) (g_X11_copyRow_e l E x0 x1 σ q hx0 hx1 h)
abbrev rm_X9_copyFrom : Room := { frames := 2, cells := 0, slots := 0, locals := 61 }
def tb_X9_copyFrom : List (Nat × Instr × Nat) := [(0, .aload_n 1, 1), (1, .getfield 9, 3), (4, .aload_n 0, 1), (5, .getfield 9, 3), (8, .invokestatic 36, 3), (11, .aload_n 1, 1), (12, .getfield 15, 3), (15, .aload_n 0, 1), (16, .getfield 15, 3), (19, .invokestatic 36, 3), (22, .aload_n 1, 1), (23, .getfield 18, 3), (26, .aload_n 0, 1), (27, .getfield 18, 3), (30, .invokestatic 36, 3), (33, .aload_n 1, 1), (34, .getfield 21, 3), (37, .aload_n 0, 1), (38, .getfield 21, 3), (41, .invokestatic 36, 3), (44, .aload_n 1, 1), (45, .getfield 24, 3), (48, .aload_n 0, 1), (49, .getfield 24, 3), (52, .invokestatic 36, 3), (55, .aload_n 1, 1), (56, .getfield 27, 3), (59, .aload_n 0, 1), (60, .getfield 27, 3), (63, .invokestatic 36, 3), (66, .aload_n 1, 1), (67, .getfield 30, 3), (70, .aload_n 0, 1), (71, .getfield 30, 3), (74, .invokestatic 36, 3), (77, .aload_n 1, 1), (78, .getfield 33, 3), (81, .aload_n 0, 1), (82, .getfield 33, 3), (85, .invokestatic 36, 3), (88, .aload_n 0, 1), (89, .aload_n 1, 1), (90, .getfield 40, 3), (93, .putfield 40, 3), (96, .return_, 1)]
theorem dt_X9_copyFrom : wg_dc cX9_copyFrom tb_X9_copyFrom := by unfold wg_dc; decide +kernel
def f_X9_copyFrom  (x0 : Nat) (x1 : Nat) (σ : wg_M) : Option (Int32 × wg_M) := wg_bd (f_X11_copyRow (wg_r Sc x1 0) (wg_r Sc x0 0) σ) (fun _ s1 => wg_bd (f_X11_copyRow (wg_r Sc x1 1) (wg_r Sc x0 1) s1) (fun _ s2 => wg_bd (f_X11_copyRow (wg_r Sc x1 2) (wg_r Sc x0 2) s2) (fun _ s3 => wg_bd (f_X11_copyRow (wg_r Sc x1 3) (wg_r Sc x0 3) s3) (fun _ s4 => wg_bd (f_X11_copyRow (wg_r Sc x1 4) (wg_r Sc x0 4) s4) (fun _ s5 => wg_bd (f_X11_copyRow (wg_r Sc x1 5) (wg_r Sc x0 5) s5) (fun _ s6 => wg_bd (f_X11_copyRow (wg_r Sc x1 6) (wg_r Sc x0 6) s6) (fun _ s7 => wg_bd (f_X11_copyRow (wg_r Sc x1 7) (wg_r Sc x0 7) s7) (fun _ s8 => wg_st s8 x0 8 (s8 x1 8) (fun s9 => some (0, s9))))))))))
set_option maxRecDepth 20000 in
theorem g_X9_copyFrom_e (l : Launch) (E : wg_E)  (x0 : Nat) (x1 : Nat) (σ : wg_M) (z : Int32 × wg_M) (hx0 : wg_t Sc x0 = 11) (hx1 : wg_t Sc x1 = 11) (h : f_X9_copyFrom  x0 x1 σ = some z) : wg_G l E Sc "WornWigs$Wigs" cX9_copyFrom 2 none rm_X9_copyFrom none z.2 0 [some (.ref x0), some (.ref x1)] [] σ := by
  refine wr_aload_n (wg_da dt_X9_copyFrom 0 rfl) rfl ?_
  refine wr_getR wf_X9_9 (wg_da dt_X9_copyFrom 1 rfl) hx1 ?_
  refine wr_aload_n (wg_da dt_X9_copyFrom 2 rfl) rfl ?_
  refine wr_getR wf_X9_9 (wg_da dt_X9_copyFrom 3 rfl) hx0 ?_
  refine wr_callNv [.ref (wg_r Sc x1 0), .ref (wg_r Sc x0 0)] [] (wg_da dt_X9_copyFrom 4 rfl) ⟨List.mem_of_getElem? (i := 9) rfl, wq_3_143⟩ wy_X11_copyRow (fun q hq => m_X11_copyRow l E (wg_r Sc x1 0) (wg_r Sc x0 0) (wg_ty Sc_ok 9 0 0 hx1 rfl (by decide)).2 (wg_ty Sc_ok 9 0 0 hx0 rfl (by decide)).2 _ q hq) rfl rfl (Nat.le_of_ble_eq_true rfl) ⟨rfl, rfl, by decide, by decide⟩ h (fun _ s1 h => ?_)
  refine wr_aload_n (wg_da dt_X9_copyFrom 5 rfl) rfl ?_
  refine wr_getR wf_X9_15 (wg_da dt_X9_copyFrom 6 rfl) hx1 ?_
  refine wr_aload_n (wg_da dt_X9_copyFrom 7 rfl) rfl ?_
  refine wr_getR wf_X9_15 (wg_da dt_X9_copyFrom 8 rfl) hx0 ?_
  refine wr_callNv [.ref (wg_r Sc x1 1), .ref (wg_r Sc x0 1)] [] (wg_da dt_X9_copyFrom 9 rfl) ⟨List.mem_of_getElem? (i := 9) rfl, wq_3_143⟩ wy_X11_copyRow (fun q hq => m_X11_copyRow l E (wg_r Sc x1 1) (wg_r Sc x0 1) (wg_ty Sc_ok 9 1 0 hx1 rfl (by decide)).2 (wg_ty Sc_ok 9 1 0 hx0 rfl (by decide)).2 _ q hq) rfl rfl (Nat.le_of_ble_eq_true rfl) ⟨rfl, rfl, by decide, by decide⟩ h (fun _ s2 h => ?_)
  refine wr_aload_n (wg_da dt_X9_copyFrom 10 rfl) rfl ?_
  refine wr_getR wf_X9_18 (wg_da dt_X9_copyFrom 11 rfl) hx1 ?_
  refine wr_aload_n (wg_da dt_X9_copyFrom 12 rfl) rfl ?_
  refine wr_getR wf_X9_18 (wg_da dt_X9_copyFrom 13 rfl) hx0 ?_
  refine wr_callNv [.ref (wg_r Sc x1 2), .ref (wg_r Sc x0 2)] [] (wg_da dt_X9_copyFrom 14 rfl) ⟨List.mem_of_getElem? (i := 9) rfl, wq_3_143⟩ wy_X11_copyRow (fun q hq => m_X11_copyRow l E (wg_r Sc x1 2) (wg_r Sc x0 2) (wg_ty Sc_ok 9 2 0 hx1 rfl (by decide)).2 (wg_ty Sc_ok 9 2 0 hx0 rfl (by decide)).2 _ q hq) rfl rfl (Nat.le_of_ble_eq_true rfl) ⟨rfl, rfl, by decide, by decide⟩ h (fun _ s3 h => ?_)
  refine wr_aload_n (wg_da dt_X9_copyFrom 15 rfl) rfl ?_
  refine wr_getR wf_X9_21 (wg_da dt_X9_copyFrom 16 rfl) hx1 ?_
  refine wr_aload_n (wg_da dt_X9_copyFrom 17 rfl) rfl ?_
  refine wr_getR wf_X9_21 (wg_da dt_X9_copyFrom 18 rfl) hx0 ?_
  refine wr_callNv [.ref (wg_r Sc x1 3), .ref (wg_r Sc x0 3)] [] (wg_da dt_X9_copyFrom 19 rfl) ⟨List.mem_of_getElem? (i := 9) rfl, wq_3_143⟩ wy_X11_copyRow (fun q hq => m_X11_copyRow l E (wg_r Sc x1 3) (wg_r Sc x0 3) (wg_ty Sc_ok 9 3 0 hx1 rfl (by decide)).2 (wg_ty Sc_ok 9 3 0 hx0 rfl (by decide)).2 _ q hq) rfl rfl (Nat.le_of_ble_eq_true rfl) ⟨rfl, rfl, by decide, by decide⟩ h (fun _ s4 h => ?_)
  refine wr_aload_n (wg_da dt_X9_copyFrom 20 rfl) rfl ?_
  refine wr_getR wf_X9_24 (wg_da dt_X9_copyFrom 21 rfl) hx1 ?_
  refine wr_aload_n (wg_da dt_X9_copyFrom 22 rfl) rfl ?_
  refine wr_getR wf_X9_24 (wg_da dt_X9_copyFrom 23 rfl) hx0 ?_
  refine wr_callNv [.ref (wg_r Sc x1 4), .ref (wg_r Sc x0 4)] [] (wg_da dt_X9_copyFrom 24 rfl) ⟨List.mem_of_getElem? (i := 9) rfl, wq_3_143⟩ wy_X11_copyRow (fun q hq => m_X11_copyRow l E (wg_r Sc x1 4) (wg_r Sc x0 4) (wg_ty Sc_ok 9 4 0 hx1 rfl (by decide)).2 (wg_ty Sc_ok 9 4 0 hx0 rfl (by decide)).2 _ q hq) rfl rfl (Nat.le_of_ble_eq_true rfl) ⟨rfl, rfl, by decide, by decide⟩ h (fun _ s5 h => ?_)
  refine wr_aload_n (wg_da dt_X9_copyFrom 25 rfl) rfl ?_
  refine wr_getR wf_X9_27 (wg_da dt_X9_copyFrom 26 rfl) hx1 ?_
  refine wr_aload_n (wg_da dt_X9_copyFrom 27 rfl) rfl ?_
  refine wr_getR wf_X9_27 (wg_da dt_X9_copyFrom 28 rfl) hx0 ?_
  refine wr_callNv [.ref (wg_r Sc x1 5), .ref (wg_r Sc x0 5)] [] (wg_da dt_X9_copyFrom 29 rfl) ⟨List.mem_of_getElem? (i := 9) rfl, wq_3_143⟩ wy_X11_copyRow (fun q hq => m_X11_copyRow l E (wg_r Sc x1 5) (wg_r Sc x0 5) (wg_ty Sc_ok 9 5 0 hx1 rfl (by decide)).2 (wg_ty Sc_ok 9 5 0 hx0 rfl (by decide)).2 _ q hq) rfl rfl (Nat.le_of_ble_eq_true rfl) ⟨rfl, rfl, by decide, by decide⟩ h (fun _ s6 h => ?_)
  refine wr_aload_n (wg_da dt_X9_copyFrom 30 rfl) rfl ?_
  refine wr_getR wf_X9_30 (wg_da dt_X9_copyFrom 31 rfl) hx1 ?_
  refine wr_aload_n (wg_da dt_X9_copyFrom 32 rfl) rfl ?_
  refine wr_getR wf_X9_30 (wg_da dt_X9_copyFrom 33 rfl) hx0 ?_
  refine wr_callNv [.ref (wg_r Sc x1 6), .ref (wg_r Sc x0 6)] [] (wg_da dt_X9_copyFrom 34 rfl) ⟨List.mem_of_getElem? (i := 9) rfl, wq_3_143⟩ wy_X11_copyRow (fun q hq => m_X11_copyRow l E (wg_r Sc x1 6) (wg_r Sc x0 6) (wg_ty Sc_ok 9 6 0 hx1 rfl (by decide)).2 (wg_ty Sc_ok 9 6 0 hx0 rfl (by decide)).2 _ q hq) rfl rfl (Nat.le_of_ble_eq_true rfl) ⟨rfl, rfl, by decide, by decide⟩ h (fun _ s7 h => ?_)
  refine wr_aload_n (wg_da dt_X9_copyFrom 35 rfl) rfl ?_
  refine wr_getR wf_X9_33 (wg_da dt_X9_copyFrom 36 rfl) hx1 ?_
  refine wr_aload_n (wg_da dt_X9_copyFrom 37 rfl) rfl ?_
  refine wr_getR wf_X9_33 (wg_da dt_X9_copyFrom 38 rfl) hx0 ?_
  refine wr_callNv [.ref (wg_r Sc x1 7), .ref (wg_r Sc x0 7)] [] (wg_da dt_X9_copyFrom 39 rfl) ⟨List.mem_of_getElem? (i := 9) rfl, wq_3_143⟩ wy_X11_copyRow (fun q hq => m_X11_copyRow l E (wg_r Sc x1 7) (wg_r Sc x0 7) (wg_ty Sc_ok 9 7 0 hx1 rfl (by decide)).2 (wg_ty Sc_ok 9 7 0 hx0 rfl (by decide)).2 _ q hq) rfl rfl (Nat.le_of_ble_eq_true rfl) ⟨rfl, rfl, by decide, by decide⟩ h (fun _ s8 h => ?_)
  refine wr_aload_n (wg_da dt_X9_copyFrom 40 rfl) rfl ?_
  refine wr_aload_n (wg_da dt_X9_copyFrom 41 rfl) rfl ?_
  refine wr_getI wf_X9_40 (wg_da dt_X9_copyFrom 42 rfl) hx1 ?_
  refine wr_putI wfp_X9_40 (wg_da dt_X9_copyFrom 43 rfl) hx0 h (fun s9 h => ?_)
  exact wr_vret (wg_da dt_X9_copyFrom 44 rfl) h
theorem m_X9_copyFrom (l : Launch) (E : wg_E) (x0 : Nat) (x1 : Nat) (hx0 : wg_t Sc x0 = 11) (hx1 : wg_t Sc x1 = 11) (σ : wg_M) (q : Int32 × wg_M) (h : f_X9_copyFrom x0 x1 σ = some q) : wg_MG l E Sc yX9_copyFrom cX9_copyFrom 2 none rm_X9_copyFrom [.ref x0, .ref x1] σ none q.2 :=
  wg_met [.ref x0, .ref x1] (plainFor_of_name (by decide)) (Nat.le_of_ble_eq_true rfl) (g_X9_copyFrom_e l E x0 x1 σ q hx0 hx1 h)
abbrev rm_X2_copyFrom : Room := { frames := 2, cells := 0, slots := 0, locals := 61 }
def tb_X2_copyFrom : List (Nat × Instr × Nat) := [(0, .aload_n 1, 1), (1, .getfield 9, 3), (4, .aload_n 0, 1), (5, .getfield 9, 3), (8, .invokestatic 27, 3), (11, .aload_n 1, 1), (12, .getfield 15, 3), (15, .aload_n 0, 1), (16, .getfield 15, 3), (19, .invokestatic 27, 3), (22, .aload_n 1, 1), (23, .getfield 18, 3), (26, .aload_n 0, 1), (27, .getfield 18, 3), (30, .invokestatic 27, 3), (33, .aload_n 1, 1), (34, .getfield 21, 3), (37, .aload_n 0, 1), (38, .getfield 21, 3), (41, .invokestatic 27, 3), (44, .aload_n 1, 1), (45, .getfield 24, 3), (48, .aload_n 0, 1), (49, .getfield 24, 3), (52, .invokestatic 27, 3), (55, .aload_n 0, 1), (56, .aload_n 1, 1), (57, .getfield 31, 3), (60, .putfield 31, 3), (63, .return_, 1)]
theorem dt_X2_copyFrom : wg_dc cX2_copyFrom tb_X2_copyFrom := by unfold wg_dc; decide +kernel
def f_X2_copyFrom  (x0 : Nat) (x1 : Nat) (σ : wg_M) : Option (Int32 × wg_M) := wg_bd (f_X11_copyRow (wg_r Sc x1 0) (wg_r Sc x0 0) σ) (fun _ s1 => wg_bd (f_X11_copyRow (wg_r Sc x1 1) (wg_r Sc x0 1) s1) (fun _ s2 => wg_bd (f_X11_copyRow (wg_r Sc x1 2) (wg_r Sc x0 2) s2) (fun _ s3 => wg_bd (f_X11_copyRow (wg_r Sc x1 3) (wg_r Sc x0 3) s3) (fun _ s4 => wg_bd (f_X11_copyRow (wg_r Sc x1 4) (wg_r Sc x0 4) s4) (fun _ s5 => wg_st s5 x0 5 (s5 x1 5) (fun s6 => some (0, s6)))))))
set_option maxRecDepth 20000 in
theorem g_X2_copyFrom_e (l : Launch) (E : wg_E)  (x0 : Nat) (x1 : Nat) (σ : wg_M) (z : Int32 × wg_M) (hx0 : wg_t Sc x0 = 4) (hx1 : wg_t Sc x1 = 4) (h : f_X2_copyFrom  x0 x1 σ = some z) : wg_G l E Sc "WornWigs$Judges" cX2_copyFrom 2 none rm_X2_copyFrom none z.2 0 [some (.ref x0), some (.ref x1)] [] σ := by
  refine wr_aload_n (wg_da dt_X2_copyFrom 0 rfl) rfl ?_
  refine wr_getR wf_X2_9 (wg_da dt_X2_copyFrom 1 rfl) hx1 ?_
  refine wr_aload_n (wg_da dt_X2_copyFrom 2 rfl) rfl ?_
  refine wr_getR wf_X2_9 (wg_da dt_X2_copyFrom 3 rfl) hx0 ?_
  refine wr_callNv [.ref (wg_r Sc x1 0), .ref (wg_r Sc x0 0)] [] (wg_da dt_X2_copyFrom 4 rfl) ⟨List.mem_of_getElem? (i := 10) rfl, wq_3_143⟩ wy_X11_copyRow (fun q hq => m_X11_copyRow l E (wg_r Sc x1 0) (wg_r Sc x0 0) (wg_ty Sc_ok 2 0 0 hx1 rfl (by decide)).2 (wg_ty Sc_ok 2 0 0 hx0 rfl (by decide)).2 _ q hq) rfl rfl (Nat.le_of_ble_eq_true rfl) ⟨rfl, rfl, by decide, by decide⟩ h (fun _ s1 h => ?_)
  refine wr_aload_n (wg_da dt_X2_copyFrom 5 rfl) rfl ?_
  refine wr_getR wf_X2_15 (wg_da dt_X2_copyFrom 6 rfl) hx1 ?_
  refine wr_aload_n (wg_da dt_X2_copyFrom 7 rfl) rfl ?_
  refine wr_getR wf_X2_15 (wg_da dt_X2_copyFrom 8 rfl) hx0 ?_
  refine wr_callNv [.ref (wg_r Sc x1 1), .ref (wg_r Sc x0 1)] [] (wg_da dt_X2_copyFrom 9 rfl) ⟨List.mem_of_getElem? (i := 10) rfl, wq_3_143⟩ wy_X11_copyRow (fun q hq => m_X11_copyRow l E (wg_r Sc x1 1) (wg_r Sc x0 1) (wg_ty Sc_ok 2 1 0 hx1 rfl (by decide)).2 (wg_ty Sc_ok 2 1 0 hx0 rfl (by decide)).2 _ q hq) rfl rfl (Nat.le_of_ble_eq_true rfl) ⟨rfl, rfl, by decide, by decide⟩ h (fun _ s2 h => ?_)
  refine wr_aload_n (wg_da dt_X2_copyFrom 10 rfl) rfl ?_
  refine wr_getR wf_X2_18 (wg_da dt_X2_copyFrom 11 rfl) hx1 ?_
  refine wr_aload_n (wg_da dt_X2_copyFrom 12 rfl) rfl ?_
  refine wr_getR wf_X2_18 (wg_da dt_X2_copyFrom 13 rfl) hx0 ?_
  refine wr_callNv [.ref (wg_r Sc x1 2), .ref (wg_r Sc x0 2)] [] (wg_da dt_X2_copyFrom 14 rfl) ⟨List.mem_of_getElem? (i := 10) rfl, wq_3_143⟩ wy_X11_copyRow (fun q hq => m_X11_copyRow l E (wg_r Sc x1 2) (wg_r Sc x0 2) (wg_ty Sc_ok 2 2 0 hx1 rfl (by decide)).2 (wg_ty Sc_ok 2 2 0 hx0 rfl (by decide)).2 _ q hq) rfl rfl (Nat.le_of_ble_eq_true rfl) ⟨rfl, rfl, by decide, by decide⟩ h (fun _ s3 h => ?_)
  refine wr_aload_n (wg_da dt_X2_copyFrom 15 rfl) rfl ?_
  refine wr_getR wf_X2_21 (wg_da dt_X2_copyFrom 16 rfl) hx1 ?_
  refine wr_aload_n (wg_da dt_X2_copyFrom 17 rfl) rfl ?_
  refine wr_getR wf_X2_21 (wg_da dt_X2_copyFrom 18 rfl) hx0 ?_
  refine wr_callNv [.ref (wg_r Sc x1 3), .ref (wg_r Sc x0 3)] [] (wg_da dt_X2_copyFrom 19 rfl) ⟨List.mem_of_getElem? (i := 10) rfl, wq_3_143⟩ wy_X11_copyRow (fun q hq => m_X11_copyRow l E (wg_r Sc x1 3) (wg_r Sc x0 3) (wg_ty Sc_ok 2 3 0 hx1 rfl (by decide)).2 (wg_ty Sc_ok 2 3 0 hx0 rfl (by decide)).2 _ q hq) rfl rfl (Nat.le_of_ble_eq_true rfl) ⟨rfl, rfl, by decide, by decide⟩ h (fun _ s4 h => ?_)
  refine wr_aload_n (wg_da dt_X2_copyFrom 20 rfl) rfl ?_
  refine wr_getR wf_X2_24 (wg_da dt_X2_copyFrom 21 rfl) hx1 ?_
  refine wr_aload_n (wg_da dt_X2_copyFrom 22 rfl) rfl ?_
  refine wr_getR wf_X2_24 (wg_da dt_X2_copyFrom 23 rfl) hx0 ?_
  refine wr_callNv [.ref (wg_r Sc x1 4), .ref (wg_r Sc x0 4)] [] (wg_da dt_X2_copyFrom 24 rfl) ⟨List.mem_of_getElem? (i := 10) rfl, wq_3_143⟩ wy_X11_copyRow (fun q hq => m_X11_copyRow l E (wg_r Sc x1 4) (wg_r Sc x0 4) (wg_ty Sc_ok 2 4 0 hx1 rfl (by decide)).2 (wg_ty Sc_ok 2 4 0 hx0 rfl (by decide)).2 _ q hq) rfl rfl (Nat.le_of_ble_eq_true rfl) ⟨rfl, rfl, by decide, by decide⟩ h (fun _ s5 h => ?_)
  refine wr_aload_n (wg_da dt_X2_copyFrom 25 rfl) rfl ?_
  refine wr_aload_n (wg_da dt_X2_copyFrom 26 rfl) rfl ?_
  refine wr_getI wf_X2_31 (wg_da dt_X2_copyFrom 27 rfl) hx1 ?_
  refine wr_putI wfp_X2_31 (wg_da dt_X2_copyFrom 28 rfl) hx0 h (fun s6 h => ?_)
  exact wr_vret (wg_da dt_X2_copyFrom 29 rfl) h
theorem m_X2_copyFrom (l : Launch) (E : wg_E) (x0 : Nat) (x1 : Nat) (hx0 : wg_t Sc x0 = 4) (hx1 : wg_t Sc x1 = 4) (σ : wg_M) (q : Int32 × wg_M) (h : f_X2_copyFrom x0 x1 σ = some q) : wg_MG l E Sc yX2_copyFrom cX2_copyFrom 2 none rm_X2_copyFrom [.ref x0, .ref x1] σ none q.2 :=
  wg_met [.ref x0, .ref x1] (plainFor_of_name (by decide)) (Nat.le_of_ble_eq_true rfl) (g_X2_copyFrom_e l E x0 x1 σ q hx0 hx1 h)
abbrev rm_X0_copyFrom : Room := { frames := 3, cells := 0, slots := 0, locals := 82 }
def tb_X0_copyFrom : List (Nat × Instr × Nat) := [(0, .aload_n 0, 1), (1, .getfield 12, 3), (4, .aload_n 1, 1), (5, .getfield 12, 3), (8, .invokevirtual 38, 3), (11, .aload_n 0, 1), (12, .getfield 21, 3), (15, .aload_n 1, 1), (16, .getfield 21, 3), (19, .invokevirtual 42, 3), (22, .aload_n 1, 1), (23, .getfield 25, 3), (26, .aload_n 0, 1), (27, .getfield 25, 3), (30, .invokestatic 45, 3), (33, .aload_n 1, 1), (34, .getfield 29, 3), (37, .aload_n 0, 1), (38, .getfield 29, 3), (41, .invokestatic 45, 3), (44, .aload_n 1, 1), (45, .getfield 32, 3), (48, .aload_n 0, 1), (49, .getfield 32, 3), (52, .invokestatic 45, 3), (55, .aload_n 1, 1), (56, .getfield 35, 3), (59, .aload_n 0, 1), (60, .getfield 35, 3), (63, .invokestatic 45, 3), (66, .aload_n 0, 1), (67, .aload_n 1, 1), (68, .getfield 49, 3), (71, .putfield 49, 3), (74, .aload_n 0, 1), (75, .aload_n 1, 1), (76, .getfield 53, 3), (79, .putfield 53, 3), (82, .aload_n 0, 1), (83, .aload_n 1, 1), (84, .getfield 56, 3), (87, .putfield 56, 3), (90, .aload_n 0, 1), (91, .aload_n 1, 1), (92, .getfield 59, 3), (95, .putfield 59, 3), (98, .return_, 1)]
theorem dt_X0_copyFrom : wg_dc cX0_copyFrom tb_X0_copyFrom := by unfold wg_dc; decide +kernel
def f_X0_copyFrom  (x0 : Nat) (x1 : Nat) (σ : wg_M) : Option (Int32 × wg_M) := wg_bd (f_X9_copyFrom (wg_r Sc x0 0) (wg_r Sc x1 0) σ) (fun _ s1 => wg_bd (f_X2_copyFrom (wg_r Sc x0 1) (wg_r Sc x1 1) s1) (fun _ s2 => wg_bd (f_X11_copyRow (wg_r Sc x1 2) (wg_r Sc x0 2) s2) (fun _ s3 => wg_bd (f_X11_copyRow (wg_r Sc x1 3) (wg_r Sc x0 3) s3) (fun _ s4 => wg_bd (f_X11_copyRow (wg_r Sc x1 4) (wg_r Sc x0 4) s4) (fun _ s5 => wg_bd (f_X11_copyRow (wg_r Sc x1 5) (wg_r Sc x0 5) s5) (fun _ s6 => wg_st s6 x0 6 (s6 x1 6) (fun s7 => wg_st s7 x0 7 (s7 x1 7) (fun s8 => wg_st s8 x0 8 (s8 x1 8) (fun s9 => wg_st s9 x0 9 (s9 x1 9) (fun s10 => some (0, s10)))))))))))
set_option maxRecDepth 20000 in
theorem g_X0_copyFrom_e (l : Launch) (E : wg_E)  (x0 : Nat) (x1 : Nat) (σ : wg_M) (z : Int32 × wg_M) (hx0 : wg_t Sc x0 = 2) (hx1 : wg_t Sc x1 = 2) (h : f_X0_copyFrom  x0 x1 σ = some z) : wg_G l E Sc "WornWigs$Bench" cX0_copyFrom 2 none rm_X0_copyFrom none z.2 0 [some (.ref x0), some (.ref x1)] [] σ := by
  refine wr_aload_n (wg_da dt_X0_copyFrom 0 rfl) rfl ?_
  refine wr_getR wf_X0_12 (wg_da dt_X0_copyFrom 1 rfl) hx0 ?_
  refine wr_aload_n (wg_da dt_X0_copyFrom 2 rfl) rfl ?_
  refine wr_getR wf_X0_12 (wg_da dt_X0_copyFrom 3 rfl) hx1 ?_
  refine wr_callVv [.ref (wg_r Sc x1 0)] [] (wg_da dt_X0_copyFrom 4 rfl) ⟨wq_3_138, wq_3_139, wq_3_140⟩ (wg_ty Sc_ok 0 0 11 hx0 rfl (by decide)).2 ⟨rfl, by decide⟩ wy_X9_copyFrom (fun q hq => m_X9_copyFrom l E (wg_r Sc x0 0) (wg_r Sc x1 0) (wg_ty Sc_ok 0 0 11 hx0 rfl (by decide)).2 (wg_ty Sc_ok 0 0 11 hx1 rfl (by decide)).2 _ q hq) rfl rfl (Nat.le_of_ble_eq_true rfl) ⟨rfl, rfl, by decide, by decide⟩ h (fun _ s1 h => ?_)
  refine wr_aload_n (wg_da dt_X0_copyFrom 5 rfl) rfl ?_
  refine wr_getR wf_X0_21 (wg_da dt_X0_copyFrom 6 rfl) hx0 ?_
  refine wr_aload_n (wg_da dt_X0_copyFrom 7 rfl) rfl ?_
  refine wr_getR wf_X0_21 (wg_da dt_X0_copyFrom 8 rfl) hx1 ?_
  refine wr_callVv [.ref (wg_r Sc x1 1)] [] (wg_da dt_X0_copyFrom 9 rfl) ⟨wq_3_149, wq_3_150, wq_3_151⟩ (wg_ty Sc_ok 0 1 4 hx0 rfl (by decide)).2 ⟨rfl, by decide⟩ wy_X2_copyFrom (fun q hq => m_X2_copyFrom l E (wg_r Sc x0 1) (wg_r Sc x1 1) (wg_ty Sc_ok 0 1 4 hx0 rfl (by decide)).2 (wg_ty Sc_ok 0 1 4 hx1 rfl (by decide)).2 _ q hq) rfl rfl (Nat.le_of_ble_eq_true rfl) ⟨rfl, rfl, by decide, by decide⟩ h (fun _ s2 h => ?_)
  refine wr_aload_n (wg_da dt_X0_copyFrom 10 rfl) rfl ?_
  refine wr_getR wf_X0_25 (wg_da dt_X0_copyFrom 11 rfl) hx1 ?_
  refine wr_aload_n (wg_da dt_X0_copyFrom 12 rfl) rfl ?_
  refine wr_getR wf_X0_25 (wg_da dt_X0_copyFrom 13 rfl) hx0 ?_
  refine wr_callNv [.ref (wg_r Sc x1 2), .ref (wg_r Sc x0 2)] [] (wg_da dt_X0_copyFrom 14 rfl) ⟨List.mem_of_getElem? (i := 11) rfl, wq_3_143⟩ wy_X11_copyRow (fun q hq => m_X11_copyRow l E (wg_r Sc x1 2) (wg_r Sc x0 2) (wg_ty Sc_ok 0 2 0 hx1 rfl (by decide)).2 (wg_ty Sc_ok 0 2 0 hx0 rfl (by decide)).2 _ q hq) rfl rfl (Nat.le_of_ble_eq_true rfl) ⟨rfl, rfl, by decide, by decide⟩ h (fun _ s3 h => ?_)
  refine wr_aload_n (wg_da dt_X0_copyFrom 15 rfl) rfl ?_
  refine wr_getR wf_X0_29 (wg_da dt_X0_copyFrom 16 rfl) hx1 ?_
  refine wr_aload_n (wg_da dt_X0_copyFrom 17 rfl) rfl ?_
  refine wr_getR wf_X0_29 (wg_da dt_X0_copyFrom 18 rfl) hx0 ?_
  refine wr_callNv [.ref (wg_r Sc x1 3), .ref (wg_r Sc x0 3)] [] (wg_da dt_X0_copyFrom 19 rfl) ⟨List.mem_of_getElem? (i := 11) rfl, wq_3_143⟩ wy_X11_copyRow (fun q hq => m_X11_copyRow l E (wg_r Sc x1 3) (wg_r Sc x0 3) (wg_ty Sc_ok 0 3 0 hx1 rfl (by decide)).2 (wg_ty Sc_ok 0 3 0 hx0 rfl (by decide)).2 _ q hq) rfl rfl (Nat.le_of_ble_eq_true rfl) ⟨rfl, rfl, by decide, by decide⟩ h (fun _ s4 h => ?_)
  refine wr_aload_n (wg_da dt_X0_copyFrom 20 rfl) rfl ?_
  refine wr_getR wf_X0_32 (wg_da dt_X0_copyFrom 21 rfl) hx1 ?_
  refine wr_aload_n (wg_da dt_X0_copyFrom 22 rfl) rfl ?_
  refine wr_getR wf_X0_32 (wg_da dt_X0_copyFrom 23 rfl) hx0 ?_
  refine wr_callNv [.ref (wg_r Sc x1 4), .ref (wg_r Sc x0 4)] [] (wg_da dt_X0_copyFrom 24 rfl) ⟨List.mem_of_getElem? (i := 11) rfl, wq_3_143⟩ wy_X11_copyRow (fun q hq => m_X11_copyRow l E (wg_r Sc x1 4) (wg_r Sc x0 4) (wg_ty Sc_ok 0 4 0 hx1 rfl (by decide)).2 (wg_ty Sc_ok 0 4 0 hx0 rfl (by decide)).2 _ q hq) rfl rfl (Nat.le_of_ble_eq_true rfl) ⟨rfl, rfl, by decide, by decide⟩ h (fun _ s5 h => ?_)
  refine wr_aload_n (wg_da dt_X0_copyFrom 25 rfl) rfl ?_
  refine wr_getR wf_X0_35 (wg_da dt_X0_copyFrom 26 rfl) hx1 ?_
  refine wr_aload_n (wg_da dt_X0_copyFrom 27 rfl) rfl ?_
  refine wr_getR wf_X0_35 (wg_da dt_X0_copyFrom 28 rfl) hx0 ?_
  refine wr_callNv [.ref (wg_r Sc x1 5), .ref (wg_r Sc x0 5)] [] (wg_da dt_X0_copyFrom 29 rfl) ⟨List.mem_of_getElem? (i := 11) rfl, wq_3_143⟩ wy_X11_copyRow (fun q hq => m_X11_copyRow l E (wg_r Sc x1 5) (wg_r Sc x0 5) (wg_ty Sc_ok 0 5 0 hx1 rfl (by decide)).2 (wg_ty Sc_ok 0 5 0 hx0 rfl (by decide)).2 _ q hq) rfl rfl (Nat.le_of_ble_eq_true rfl) ⟨rfl, rfl, by decide, by decide⟩ h (fun _ s6 h => ?_)
  refine wr_aload_n (wg_da dt_X0_copyFrom 30 rfl) rfl ?_
  refine wr_aload_n (wg_da dt_X0_copyFrom 31 rfl) rfl ?_
  refine wr_getI wf_X0_49 (wg_da dt_X0_copyFrom 32 rfl) hx1 ?_
  refine wr_putI wfp_X0_49 (wg_da dt_X0_copyFrom 33 rfl) hx0 h (fun s7 h => ?_)
  refine wr_aload_n (wg_da dt_X0_copyFrom 34 rfl) rfl ?_
  refine wr_aload_n (wg_da dt_X0_copyFrom 35 rfl) rfl ?_
  refine wr_getI wf_X0_53 (wg_da dt_X0_copyFrom 36 rfl) hx1 ?_
  refine wr_putI wfp_X0_53 (wg_da dt_X0_copyFrom 37 rfl) hx0 h (fun s8 h => ?_)
  refine wr_aload_n (wg_da dt_X0_copyFrom 38 rfl) rfl ?_
  refine wr_aload_n (wg_da dt_X0_copyFrom 39 rfl) rfl ?_
  refine wr_getI wf_X0_56 (wg_da dt_X0_copyFrom 40 rfl) hx1 ?_
  refine wr_putI wfp_X0_56 (wg_da dt_X0_copyFrom 41 rfl) hx0 h (fun s9 h => ?_)
  refine wr_aload_n (wg_da dt_X0_copyFrom 42 rfl) rfl ?_
  refine wr_aload_n (wg_da dt_X0_copyFrom 43 rfl) rfl ?_
  refine wr_getI wf_X0_59 (wg_da dt_X0_copyFrom 44 rfl) hx1 ?_
  refine wr_putI wfp_X0_59 (wg_da dt_X0_copyFrom 45 rfl) hx0 h (fun s10 h => ?_)
  exact wr_vret (wg_da dt_X0_copyFrom 46 rfl) h
theorem m_X0_copyFrom (l : Launch) (E : wg_E) (x0 : Nat) (x1 : Nat) (hx0 : wg_t Sc x0 = 2) (hx1 : wg_t Sc x1 = 2) (σ : wg_M) (q : Int32 × wg_M) (h : f_X0_copyFrom x0 x1 σ = some q) : wg_MG l E Sc yX0_copyFrom cX0_copyFrom 2 none rm_X0_copyFrom [.ref x0, .ref x1] σ none q.2 :=
  wg_met [.ref x0, .ref x1] (plainFor_of_name (by decide)) (Nat.le_of_ble_eq_true rfl) (g_X0_copyFrom_e l E x0 x1 σ q hx0 hx1 h)
abbrev rm_X0_hasCase : Room := { frames := 0, cells := 0, slots := 0, locals := 0 }
def tb_X0_hasCase : List (Nat × Instr × Nat) := [(0, .iload_n 1, 1), (1, .ifCond .lt 15, 3), (4, .iload_n 1, 1), (5, .aload_n 0, 1), (6, .getfield 49, 3), (9, .if_icmp .ge 7, 3), (12, .iconst 1, 1), (13, .goto 4, 3), (16, .iconst 0, 1), (17, .ireturn, 1)]
theorem dt_X0_hasCase : wg_dc cX0_hasCase tb_X0_hasCase := by unfold wg_dc; decide +kernel
def f_X0_hasCase  (x0 : Nat) (x1 : Int32) (σ : wg_M) : Option (Int32 × wg_M) := if x1 < 0 then (some ((0 : Int32), σ)) else (if (σ x0 6) ≤ x1 then (some ((0 : Int32), σ)) else (some ((1 : Int32), σ)))
set_option maxRecDepth 20000 in
theorem g_X0_hasCase_e (l : Launch) (E : wg_E)  (x0 : Nat) (x1 : Int32) (σ : wg_M) (z : Int32 × wg_M) (hx0 : wg_t Sc x0 = 2) (h : f_X0_hasCase  x0 x1 σ = some z) : wg_G l E Sc "WornWigs$Bench" cX0_hasCase 2 (some .boolean) rm_X0_hasCase (some z.1) z.2 0 [some (.ref x0), some (.int x1)] [] σ := by
  refine wr_iload_n (wg_da dt_X0_hasCase 0 rfl) rfl ?_
  refine wr_if_lt 16 (wg_da dt_X0_hasCase 1 rfl) (by decide) h (fun h => ?_) (fun h => ?_)
  · refine wr_iconst (0 : Int32) (wg_da dt_X0_hasCase 8 rfl) (by decide) ?_
    exact wr_zret0 (wg_da dt_X0_hasCase 9 rfl) h
  · refine wr_iload_n (wg_da dt_X0_hasCase 2 rfl) rfl ?_
    refine wr_aload_n (wg_da dt_X0_hasCase 3 rfl) rfl ?_
    refine wr_getI wf_X0_49 (wg_da dt_X0_hasCase 4 rfl) hx0 ?_
    refine wr_icmp_ge 16 (wg_da dt_X0_hasCase 5 rfl) (by decide) h (fun h => ?_) (fun h => ?_)
    · refine wr_iconst (0 : Int32) (wg_da dt_X0_hasCase 8 rfl) (by decide) ?_
      exact wr_zret0 (wg_da dt_X0_hasCase 9 rfl) h
    · refine wr_iconst (1 : Int32) (wg_da dt_X0_hasCase 6 rfl) (by decide) ?_
      refine wr_goto 17 (wg_da dt_X0_hasCase 7 rfl) (by decide) ?_
      exact wr_zret1 (wg_da dt_X0_hasCase 9 rfl) h
theorem m_X0_hasCase (l : Launch) (E : wg_E) (x0 : Nat) (x1 : Int32) (hx0 : wg_t Sc x0 = 2) (σ : wg_M) (q : Int32 × wg_M) (h : f_X0_hasCase x0 x1 σ = some q) : wg_MG l E Sc yX0_hasCase cX0_hasCase 2 (some .boolean) rm_X0_hasCase [.ref x0, .int x1] σ (some q.1) q.2 :=
  wg_met [.ref x0, .int x1] (plainFor_of_name (by decide)) (Nat.le_of_ble_eq_true rfl) (g_X0_hasCase_e l E x0 x1 σ q hx0 h)
abbrev rm_X0_addCase : Room := { frames := 0, cells := 0, slots := 0, locals := 0 }
def tb_X0_addCase : List (Nat × Instr × Nat) := [(0, .aload_n 0, 1), (1, .getfield 49, 3), (4, .bipush 14, 2), (6, .if_icmp .lt 5, 3), (9, .iconst (-1), 1), (10, .ireturn, 1), (11, .aload_n 0, 1), (12, .getfield 25, 3), (15, .aload_n 0, 1), (16, .getfield 49, 3), (19, .iload_n 1, 1), (20, .iastore, 1), (21, .aload_n 0, 1), (22, .getfield 29, 3), (25, .aload_n 0, 1), (26, .getfield 49, 3), (29, .iload_n 2, 1), (30, .iastore, 1), (31, .aload_n 0, 1), (32, .getfield 32, 3), (35, .aload_n 0, 1), (36, .getfield 49, 3), (39, .sipush (-10000), 3), (42, .iastore, 1), (43, .aload_n 0, 1), (44, .getfield 35, 3), (47, .aload_n 0, 1), (48, .getfield 49, 3), (51, .iconst (-1), 1), (52, .iastore, 1), (53, .aload_n 0, 1), (54, .dup, 1), (55, .getfield 49, 3), (58, .iconst 1, 1), (59, .iadd, 1), (60, .putfield 49, 3), (63, .aload_n 0, 1), (64, .getfield 49, 3), (67, .iconst 1, 1), (68, .isub, 1), (69, .ireturn, 1)]
theorem dt_X0_addCase : wg_dc cX0_addCase tb_X0_addCase := by unfold wg_dc; decide +kernel
def f_X0_addCase  (x0 : Nat) (x1 : Int32) (x2 : Int32) (σ : wg_M) : Option (Int32 × wg_M) := if (σ x0 6) < (14 : Int32) then (wg_sa (wg_n Sc (wg_r Sc x0 2)) σ (wg_r Sc x0 2) (σ x0 6) x1 (fun s1 => wg_sa (wg_n Sc (wg_r Sc x0 3)) s1 (wg_r Sc x0 3) (s1 x0 6) x2 (fun s2 => wg_sa (wg_n Sc (wg_r Sc x0 4)) s2 (wg_r Sc x0 4) (s2 x0 6) (-10000 : Int32) (fun s3 => wg_sa (wg_n Sc (wg_r Sc x0 5)) s3 (wg_r Sc x0 5) (s3 x0 6) (-1 : Int32) (fun s4 => wg_st s4 x0 6 ((s4 x0 6) + (1 : Int32)) (fun s5 => some ((s5 x0 6) - (1 : Int32), s5))))))) else (some ((-1 : Int32), σ))
set_option maxRecDepth 20000 in
theorem g_X0_addCase_e (l : Launch) (E : wg_E)  (x0 : Nat) (x1 : Int32) (x2 : Int32) (σ : wg_M) (z : Int32 × wg_M) (hx0 : wg_t Sc x0 = 2) (h : f_X0_addCase  x0 x1 x2 σ = some z) : wg_G l E Sc "WornWigs$Bench" cX0_addCase 3 (some .int) rm_X0_addCase (some z.1) z.2 0 [some (.ref x0), some (.int x1), some (.int x2)] [] σ := by
  refine wr_aload_n (wg_da dt_X0_addCase 0 rfl) rfl ?_
  refine wr_getI wf_X0_49 (wg_da dt_X0_addCase 1 rfl) hx0 ?_
  refine wr_bipush (14 : Int32) (wg_da dt_X0_addCase 2 rfl) (by decide) ?_
  refine wr_icmp_lt 11 (wg_da dt_X0_addCase 3 rfl) (by decide) h (fun h => ?_) (fun h => ?_)
  · refine wr_aload_n (wg_da dt_X0_addCase 6 rfl) rfl ?_
    refine wr_getR wf_X0_25 (wg_da dt_X0_addCase 7 rfl) hx0 ?_
    refine wr_aload_n (wg_da dt_X0_addCase 8 rfl) rfl ?_
    refine wr_getI wf_X0_49 (wg_da dt_X0_addCase 9 rfl) hx0 ?_
    refine wr_iload_n (wg_da dt_X0_addCase 10 rfl) rfl ?_
    refine wr_iast (wg_da dt_X0_addCase 11 rfl) (wg_ty Sc_ok 0 2 0 hx0 rfl (by decide)).2 h (fun s1 h => ?_)
    refine wr_aload_n (wg_da dt_X0_addCase 12 rfl) rfl ?_
    refine wr_getR wf_X0_29 (wg_da dt_X0_addCase 13 rfl) hx0 ?_
    refine wr_aload_n (wg_da dt_X0_addCase 14 rfl) rfl ?_
    refine wr_getI wf_X0_49 (wg_da dt_X0_addCase 15 rfl) hx0 ?_
    refine wr_iload_n (wg_da dt_X0_addCase 16 rfl) rfl ?_
    refine wr_iast (wg_da dt_X0_addCase 17 rfl) (wg_ty Sc_ok 0 3 0 hx0 rfl (by decide)).2 h (fun s2 h => ?_)
    refine wr_aload_n (wg_da dt_X0_addCase 18 rfl) rfl ?_
    refine wr_getR wf_X0_32 (wg_da dt_X0_addCase 19 rfl) hx0 ?_
    refine wr_aload_n (wg_da dt_X0_addCase 20 rfl) rfl ?_
    refine wr_getI wf_X0_49 (wg_da dt_X0_addCase 21 rfl) hx0 ?_
    refine wr_sipush (-10000 : Int32) (wg_da dt_X0_addCase 22 rfl) (by decide) ?_
    refine wr_iast (wg_da dt_X0_addCase 23 rfl) (wg_ty Sc_ok 0 4 0 hx0 rfl (by decide)).2 h (fun s3 h => ?_)
    refine wr_aload_n (wg_da dt_X0_addCase 24 rfl) rfl ?_
    refine wr_getR wf_X0_35 (wg_da dt_X0_addCase 25 rfl) hx0 ?_
    refine wr_aload_n (wg_da dt_X0_addCase 26 rfl) rfl ?_
    refine wr_getI wf_X0_49 (wg_da dt_X0_addCase 27 rfl) hx0 ?_
    refine wr_iconst (-1 : Int32) (wg_da dt_X0_addCase 28 rfl) (by decide) ?_
    refine wr_iast (wg_da dt_X0_addCase 29 rfl) (wg_ty Sc_ok 0 5 0 hx0 rfl (by decide)).2 h (fun s4 h => ?_)
    refine wr_aload_n (wg_da dt_X0_addCase 30 rfl) rfl ?_
    refine wr_dup (wg_da dt_X0_addCase 31 rfl) ?_
    refine wr_getI wf_X0_49 (wg_da dt_X0_addCase 32 rfl) hx0 ?_
    refine wr_iconst (1 : Int32) (wg_da dt_X0_addCase 33 rfl) (by decide) ?_
    refine wr_iadd (wg_da dt_X0_addCase 34 rfl) ?_
    refine wr_putI wfp_X0_49 (wg_da dt_X0_addCase 35 rfl) hx0 h (fun s5 h => ?_)
    refine wr_aload_n (wg_da dt_X0_addCase 36 rfl) rfl ?_
    refine wr_getI wf_X0_49 (wg_da dt_X0_addCase 37 rfl) hx0 ?_
    refine wr_iconst (1 : Int32) (wg_da dt_X0_addCase 38 rfl) (by decide) ?_
    refine wr_isub (wg_da dt_X0_addCase 39 rfl) ?_
    exact wr_iret (wg_da dt_X0_addCase 40 rfl) h
  · refine wr_iconst (-1 : Int32) (wg_da dt_X0_addCase 4 rfl) (by decide) ?_
    exact wr_iret (wg_da dt_X0_addCase 5 rfl) h
theorem m_X0_addCase (l : Launch) (E : wg_E) (x0 : Nat) (x1 : Int32) (x2 : Int32) (hx0 : wg_t Sc x0 = 2) (σ : wg_M) (q : Int32 × wg_M) (h : f_X0_addCase x0 x1 x2 σ = some q) : wg_MG l E Sc yX0_addCase cX0_addCase 3 (some .int) rm_X0_addCase [.ref x0, .int x1, .int x2] σ (some q.1) q.2 :=
  wg_met [.ref x0, .int x1, .int x2] (plainFor_of_name (by decide)) (Nat.le_of_ble_eq_true rfl) (g_X0_addCase_e l E x0 x1 x2 σ q hx0 h)
abbrev rm_X0_openSet : Room := { frames := 0, cells := 0, slots := 0, locals := 0 }
def tb_X0_openSet : List (Nat × Instr × Nat) := [(0, .iconst 0, 1), (1, .istore_n 1, 1), (2, .iconst 0, 1), (3, .istore_n 2, 1), (4, .iload_n 2, 1), (5, .aload_n 0, 1), (6, .getfield 49, 3), (9, .if_icmp .ge 27, 3), (12, .aload_n 0, 1), (13, .getfield 32, 3), (16, .iload_n 2, 1), (17, .iaload, 1), (18, .sipush (-10000), 3), (21, .if_icmp .ne 9, 3), (24, .iload_n 1, 1), (25, .iconst 1, 1), (26, .iload_n 2, 1), (27, .ishl, 1), (28, .ior, 1), (29, .istore_n 1, 1), (30, .iinc 2 1, 3), (33, .goto (-29), 3), (36, .iload_n 1, 1), (37, .ireturn, 1)]
theorem dt_X0_openSet : wg_dc cX0_openSet tb_X0_openSet := by unfold wg_dc; decide +kernel
def f_X0_openSet_30 (k4 : Nat → Int32 → Int32 → wg_M → Option (Int32 × wg_M)) (x0 : Nat) (x1 : Int32) (x2 : Int32) (σ : wg_M) : Option (Int32 × wg_M) := wg_let (x2 + (1 : Int32)) (fun v1 => k4 x0 x1 v1 σ)
def f_X0_openSet_4  : Nat → Nat → Int32 → Int32 → wg_M → Option (Int32 × wg_M)
  | 0, _, _, _, _ => none
  | n + 1, x0, x1, x2, σ => if (σ x0 6) ≤ x2 then (some (x1, σ)) else (wg_ga (wg_n Sc (wg_r Sc x0 4)) (σ (wg_r Sc x0 4)) x2 (fun v1 => if v1 = (-10000 : Int32) then (wg_let (x1 ||| ((1 : Int32) <<< (x2 &&& 31))) (fun v2 => f_X0_openSet_30 (f_X0_openSet_4  n) x0 v2 x2 σ)) else (f_X0_openSet_30 (f_X0_openSet_4  n) x0 x1 x2 σ)))
def f_X0_openSet  (x0 : Nat) (σ : wg_M) : Option (Int32 × wg_M) := f_X0_openSet_4  wg_N x0 (0 : Int32) (0 : Int32) σ
set_option maxRecDepth 20000 in
theorem g_X0_openSet_30 (l : Launch) (E : wg_E) (k4 : Nat → Int32 → Int32 → wg_M → Option (Int32 × wg_M)) (x0 : Nat) (x1 : Int32) (x2 : Int32) (σ : wg_M) (z : Int32 × wg_M) (hx0 : wg_t Sc x0 = 2) (hk4 : ∀ (x0 : Nat) (x1 : Int32) (x2 : Int32) (σ : wg_M), wg_t Sc x0 = 2 → k4 x0 x1 x2 σ = some z → wg_G l E Sc "WornWigs$Bench" cX0_openSet 3 (some .int) rm_X0_openSet (some z.1) z.2 4 [some (.ref x0), some (.int x1), some (.int x2)] [] σ) (h : f_X0_openSet_30 k4 x0 x1 x2 σ = some z) : wg_G l E Sc "WornWigs$Bench" cX0_openSet 3 (some .int) rm_X0_openSet (some z.1) z.2 30 [some (.ref x0), some (.int x1), some (.int x2)] [] σ := by
  refine wr_iinc (c0 := (1 : Int32)) (wg_da dt_X0_openSet 20 rfl) rfl (by decide) (by decide) h (fun v1 h => ?_)
  refine wr_goto 4 (wg_da dt_X0_openSet 21 rfl) (by decide) ?_
  exact wr_wk [true, true, true] (hk4 x0 x1 v1 σ hx0 h)
set_option maxRecDepth 20000 in
theorem g_X0_openSet_4 (l : Launch) (E : wg_E)  (z : Int32 × wg_M) : ∀ (n : Nat) (x0 : Nat) (x1 : Int32) (x2 : Int32) (σ : wg_M) (hx0 : wg_t Sc x0 = 2) (h : f_X0_openSet_4  n x0 x1 x2 σ = some z), wg_G l E Sc "WornWigs$Bench" cX0_openSet 3 (some .int) rm_X0_openSet (some z.1) z.2 4 [some (.ref x0), some (.int x1), some (.int x2)] [] σ := by
  intro n
  induction n with
  | zero => intro x0 x1 x2 σ hx0 h; cases h
  | succ n ih =>
    intro x0 x1 x2 σ hx0 h
    refine wr_iload_n (wg_da dt_X0_openSet 4 rfl) rfl ?_
    refine wr_aload_n (wg_da dt_X0_openSet 5 rfl) rfl ?_
    refine wr_getI wf_X0_49 (wg_da dt_X0_openSet 6 rfl) hx0 ?_
    refine wr_icmp_ge 36 (wg_da dt_X0_openSet 7 rfl) (by decide) h (fun h => ?_) (fun h => ?_)
    · refine wr_iload_n (wg_da dt_X0_openSet 22 rfl) rfl ?_
      exact wr_iret (wg_da dt_X0_openSet 23 rfl) h
    · refine wr_aload_n (wg_da dt_X0_openSet 8 rfl) rfl ?_
      refine wr_getR wf_X0_32 (wg_da dt_X0_openSet 9 rfl) hx0 ?_
      refine wr_iload_n (wg_da dt_X0_openSet 10 rfl) rfl ?_
      refine wr_iald (wg_da dt_X0_openSet 11 rfl) (wg_ty Sc_ok 0 4 0 hx0 rfl (by decide)).2 h (fun v1 h => ?_)
      refine wr_sipush (-10000 : Int32) (wg_da dt_X0_openSet 12 rfl) (by decide) ?_
      refine wr_icmp_ne 30 (wg_da dt_X0_openSet 13 rfl) (by decide) h (fun h => ?_) (fun h => ?_)
      · refine wr_iload_n (wg_da dt_X0_openSet 14 rfl) rfl ?_
        refine wr_iconst (1 : Int32) (wg_da dt_X0_openSet 15 rfl) (by decide) ?_
        refine wr_iload_n (wg_da dt_X0_openSet 16 rfl) rfl ?_
        refine wr_ishl (wg_da dt_X0_openSet 17 rfl) ?_
        refine wr_ior (wg_da dt_X0_openSet 18 rfl) ?_
        refine wr_let h (fun v2 h => ?_)
        refine wr_istore_n (wg_da dt_X0_openSet 19 rfl) (by decide) ?_
        exact wr_wk [true, true, true] (g_X0_openSet_30 l E (f_X0_openSet_4  n) x0 v2 x2 σ _ hx0 (fun x0 x1 x2 σ hx0 h => ih x0 x1 x2 σ hx0 h) h)
      · exact wr_wk [true, true, true] (g_X0_openSet_30 l E (f_X0_openSet_4  n) x0 x1 x2 σ _ hx0 (fun x0 x1 x2 σ hx0 h => ih x0 x1 x2 σ hx0 h) h)
set_option maxRecDepth 20000 in
theorem g_X0_openSet_e (l : Launch) (E : wg_E)  (x0 : Nat) (σ : wg_M) (z : Int32 × wg_M) (hx0 : wg_t Sc x0 = 2) (h : f_X0_openSet  x0 σ = some z) : wg_G l E Sc "WornWigs$Bench" cX0_openSet 3 (some .int) rm_X0_openSet (some z.1) z.2 0 [some (.ref x0), none, none] [] σ := by
  refine wr_iconst (0 : Int32) (wg_da dt_X0_openSet 0 rfl) (by decide) ?_
  refine wr_istore_n (wg_da dt_X0_openSet 1 rfl) (by decide) ?_
  refine wr_iconst (0 : Int32) (wg_da dt_X0_openSet 2 rfl) (by decide) ?_
  refine wr_istore_n (wg_da dt_X0_openSet 3 rfl) (by decide) ?_
  exact wr_wk [true, true, true] (g_X0_openSet_4 l E  _  wg_N x0 (0 : Int32) (0 : Int32) σ hx0 h)
theorem m_X0_openSet (l : Launch) (E : wg_E) (x0 : Nat) (hx0 : wg_t Sc x0 = 2) (σ : wg_M) (q : Int32 × wg_M) (h : f_X0_openSet x0 σ = some q) : wg_MG l E Sc yX0_openSet cX0_openSet 3 (some .int) rm_X0_openSet [.ref x0] σ (some q.1) q.2 :=
  wg_met [.ref x0] (plainFor_of_name (by decide)) (Nat.le_of_ble_eq_true rfl) (g_X0_openSet_e l E x0 σ q hx0 h)
abbrev rm_X2_deadSet : Room := { frames := 0, cells := 0, slots := 0, locals := 0 }
def tb_X2_deadSet : List (Nat × Instr × Nat) := [(0, .iconst 0, 1), (1, .istore_n 1, 1), (2, .iconst 0, 1), (3, .istore_n 2, 1), (4, .iload_n 2, 1), (5, .aload_n 0, 1), (6, .getfield 31, 3), (9, .if_icmp .ge 20, 3), (12, .iload_n 1, 1), (13, .aload_n 0, 1), (14, .getfield 21, 3), (17, .iload_n 2, 1), (18, .iaload, 1), (19, .iload_n 2, 1), (20, .ishl, 1), (21, .ior, 1), (22, .istore_n 1, 1), (23, .iinc 2 1, 3), (26, .goto (-22), 3), (29, .iload_n 1, 1), (30, .ireturn, 1)]
theorem dt_X2_deadSet : wg_dc cX2_deadSet tb_X2_deadSet := by unfold wg_dc; decide +kernel
def f_X2_deadSet_4  : Nat → Nat → Int32 → Int32 → wg_M → Option (Int32 × wg_M)
  | 0, _, _, _, _ => none
  | n + 1, x0, x1, x2, σ => if (σ x0 5) ≤ x2 then (some (x1, σ)) else (wg_ga (wg_n Sc (wg_r Sc x0 3)) (σ (wg_r Sc x0 3)) x2 (fun v1 => wg_let (x1 ||| (v1 <<< (x2 &&& 31))) (fun v2 => wg_let (x2 + (1 : Int32)) (fun v3 => f_X2_deadSet_4  n x0 v2 v3 σ))))
def f_X2_deadSet  (x0 : Nat) (σ : wg_M) : Option (Int32 × wg_M) := f_X2_deadSet_4  wg_N x0 (0 : Int32) (0 : Int32) σ
set_option maxRecDepth 20000 in
theorem g_X2_deadSet_4 (l : Launch) (E : wg_E)  (z : Int32 × wg_M) : ∀ (n : Nat) (x0 : Nat) (x1 : Int32) (x2 : Int32) (σ : wg_M) (hx0 : wg_t Sc x0 = 4) (h : f_X2_deadSet_4  n x0 x1 x2 σ = some z), wg_G l E Sc "WornWigs$Judges" cX2_deadSet 3 (some .int) rm_X2_deadSet (some z.1) z.2 4 [some (.ref x0), some (.int x1), some (.int x2)] [] σ := by
  intro n
  induction n with
  | zero => intro x0 x1 x2 σ hx0 h; cases h
  | succ n ih =>
    intro x0 x1 x2 σ hx0 h
    refine wr_iload_n (wg_da dt_X2_deadSet 4 rfl) rfl ?_
    refine wr_aload_n (wg_da dt_X2_deadSet 5 rfl) rfl ?_
    refine wr_getI wf_X2_31 (wg_da dt_X2_deadSet 6 rfl) hx0 ?_
    refine wr_icmp_ge 29 (wg_da dt_X2_deadSet 7 rfl) (by decide) h (fun h => ?_) (fun h => ?_)
    · refine wr_iload_n (wg_da dt_X2_deadSet 19 rfl) rfl ?_
      exact wr_iret (wg_da dt_X2_deadSet 20 rfl) h
    · refine wr_iload_n (wg_da dt_X2_deadSet 8 rfl) rfl ?_
      refine wr_aload_n (wg_da dt_X2_deadSet 9 rfl) rfl ?_
      refine wr_getR wf_X2_21 (wg_da dt_X2_deadSet 10 rfl) hx0 ?_
      refine wr_iload_n (wg_da dt_X2_deadSet 11 rfl) rfl ?_
      refine wr_iald (wg_da dt_X2_deadSet 12 rfl) (wg_ty Sc_ok 2 3 0 hx0 rfl (by decide)).2 h (fun v1 h => ?_)
      refine wr_iload_n (wg_da dt_X2_deadSet 13 rfl) rfl ?_
      refine wr_ishl (wg_da dt_X2_deadSet 14 rfl) ?_
      refine wr_ior (wg_da dt_X2_deadSet 15 rfl) ?_
      refine wr_let h (fun v2 h => ?_)
      refine wr_istore_n (wg_da dt_X2_deadSet 16 rfl) (by decide) ?_
      refine wr_iinc (c0 := (1 : Int32)) (wg_da dt_X2_deadSet 17 rfl) rfl (by decide) (by decide) h (fun v3 h => ?_)
      refine wr_goto 4 (wg_da dt_X2_deadSet 18 rfl) (by decide) ?_
      exact wr_wk [true, true, true] (ih x0 v2 v3 σ hx0 h)
set_option maxRecDepth 20000 in
theorem g_X2_deadSet_e (l : Launch) (E : wg_E)  (x0 : Nat) (σ : wg_M) (z : Int32 × wg_M) (hx0 : wg_t Sc x0 = 4) (h : f_X2_deadSet  x0 σ = some z) : wg_G l E Sc "WornWigs$Judges" cX2_deadSet 3 (some .int) rm_X2_deadSet (some z.1) z.2 0 [some (.ref x0), none, none] [] σ := by
  refine wr_iconst (0 : Int32) (wg_da dt_X2_deadSet 0 rfl) (by decide) ?_
  refine wr_istore_n (wg_da dt_X2_deadSet 1 rfl) (by decide) ?_
  refine wr_iconst (0 : Int32) (wg_da dt_X2_deadSet 2 rfl) (by decide) ?_
  refine wr_istore_n (wg_da dt_X2_deadSet 3 rfl) (by decide) ?_
  exact wr_wk [true, true, true] (g_X2_deadSet_4 l E  _  wg_N x0 (0 : Int32) (0 : Int32) σ hx0 h)
theorem m_X2_deadSet (l : Launch) (E : wg_E) (x0 : Nat) (hx0 : wg_t Sc x0 = 4) (σ : wg_M) (q : Int32 × wg_M) (h : f_X2_deadSet x0 σ = some q) : wg_MG l E Sc yX2_deadSet cX2_deadSet 3 (some .int) rm_X2_deadSet [.ref x0] σ (some q.1) q.2 :=
  wg_met [.ref x0] (plainFor_of_name (by decide)) (Nat.le_of_ble_eq_true rfl) (g_X2_deadSet_e l E x0 σ q hx0 h)
abbrev rm_J6_bitCount_0f7a4 : Room := { frames := 0, cells := 0, slots := 0, locals := 0 }
def tb_J6_bitCount_0f7a4 : List (Nat × Instr × Nat) := [(0, .iload_n 0, 1), (1, .iload_n 0, 1), (2, .iconst 1, 1), (3, .iushr, 1), (4, .ldc_w 265, 3), (7, .iand, 1), (8, .isub, 1), (9, .istore_n 0, 1), (10, .iload_n 0, 1), (11, .ldc_w 266, 3), (14, .iand, 1), (15, .iload_n 0, 1), (16, .iconst 2, 1), (17, .iushr, 1), (18, .ldc_w 266, 3), (21, .iand, 1), (22, .iadd, 1), (23, .istore_n 0, 1), (24, .iload_n 0, 1), (25, .iload_n 0, 1), (26, .iconst 4, 1), (27, .iushr, 1), (28, .iadd, 1), (29, .ldc_w 267, 3), (32, .iand, 1), (33, .istore_n 0, 1), (34, .iload_n 0, 1), (35, .iload_n 0, 1), (36, .bipush 8, 2), (38, .iushr, 1), (39, .iadd, 1), (40, .istore_n 0, 1), (41, .iload_n 0, 1), (42, .iload_n 0, 1), (43, .bipush 16, 2), (45, .iushr, 1), (46, .iadd, 1), (47, .istore_n 0, 1), (48, .iload_n 0, 1), (49, .bipush 63, 2), (51, .iand, 1), (52, .ireturn, 1)]
theorem dt_J6_bitCount_0f7a4 : wg_dc cJ6_bitCount_0f7a4 tb_J6_bitCount_0f7a4 := by unfold wg_dc; decide +kernel
def f_J6_bitCount_0f7a4  (x0 : Int32) (σ : wg_M) : Option (Int32 × wg_M) := wg_let (x0 - ((wg_ush x0 (1 : Int32)) &&& (1431655765 : Int32))) (fun v1 => wg_let ((v1 &&& (858993459 : Int32)) + ((wg_ush v1 (2 : Int32)) &&& (858993459 : Int32))) (fun v2 => wg_let ((v2 + (wg_ush v2 (4 : Int32))) &&& (252645135 : Int32)) (fun v3 => wg_let (v3 + (wg_ush v3 (8 : Int32))) (fun v4 => wg_let (v4 + (wg_ush v4 (16 : Int32))) (fun v5 => some (v5 &&& (63 : Int32), σ))))))
set_option maxRecDepth 20000 in
theorem g_J6_bitCount_0f7a4_e (l : Launch) (E : wg_E)  (x0 : Int32) (σ : wg_M) (z : Int32 × wg_M)  (h : f_J6_bitCount_0f7a4  x0 σ = some z) : wg_G l E Sc "java/lang/Integer" cJ6_bitCount_0f7a4 1 (some .int) rm_J6_bitCount_0f7a4 (some z.1) z.2 0 [some (.int x0)] [] σ := by
  refine wr_iload_n (wg_da dt_J6_bitCount_0f7a4 0 rfl) rfl ?_
  refine wr_iload_n (wg_da dt_J6_bitCount_0f7a4 1 rfl) rfl ?_
  refine wr_iconst (1 : Int32) (wg_da dt_J6_bitCount_0f7a4 2 rfl) (by decide) ?_
  refine wr_iushr (wg_da dt_J6_bitCount_0f7a4 3 rfl) ?_
  refine wr_ldcw (v := (1431655765 : Int32)) (wg_da dt_J6_bitCount_0f7a4 4 rfl) wq_3_94 ?_
  refine wr_iand (wg_da dt_J6_bitCount_0f7a4 5 rfl) ?_
  refine wr_isub (wg_da dt_J6_bitCount_0f7a4 6 rfl) ?_
  refine wr_let h (fun v1 h => ?_)
  refine wr_istore_n (wg_da dt_J6_bitCount_0f7a4 7 rfl) (by decide) ?_
  refine wr_iload_n (wg_da dt_J6_bitCount_0f7a4 8 rfl) rfl ?_
  refine wr_ldcw (v := (858993459 : Int32)) (wg_da dt_J6_bitCount_0f7a4 9 rfl) wq_3_95 ?_
  refine wr_iand (wg_da dt_J6_bitCount_0f7a4 10 rfl) ?_
  refine wr_iload_n (wg_da dt_J6_bitCount_0f7a4 11 rfl) rfl ?_
  refine wr_iconst (2 : Int32) (wg_da dt_J6_bitCount_0f7a4 12 rfl) (by decide) ?_
  refine wr_iushr (wg_da dt_J6_bitCount_0f7a4 13 rfl) ?_
  refine wr_ldcw (v := (858993459 : Int32)) (wg_da dt_J6_bitCount_0f7a4 14 rfl) wq_3_95 ?_
  refine wr_iand (wg_da dt_J6_bitCount_0f7a4 15 rfl) ?_
  refine wr_iadd (wg_da dt_J6_bitCount_0f7a4 16 rfl) ?_
  refine wr_let h (fun v2 h => ?_)
  refine wr_istore_n (wg_da dt_J6_bitCount_0f7a4 17 rfl) (by decide) ?_
  refine wr_iload_n (wg_da dt_J6_bitCount_0f7a4 18 rfl) rfl ?_
  refine wr_iload_n (wg_da dt_J6_bitCount_0f7a4 19 rfl) rfl ?_
  refine wr_iconst (4 : Int32) (wg_da dt_J6_bitCount_0f7a4 20 rfl) (by decide) ?_
  refine wr_iushr (wg_da dt_J6_bitCount_0f7a4 21 rfl) ?_
  refine wr_iadd (wg_da dt_J6_bitCount_0f7a4 22 rfl) ?_
  refine wr_ldcw (v := (252645135 : Int32)) (wg_da dt_J6_bitCount_0f7a4 23 rfl) wq_3_96 ?_
  refine wr_iand (wg_da dt_J6_bitCount_0f7a4 24 rfl) ?_
  refine wr_let h (fun v3 h => ?_)
  refine wr_istore_n (wg_da dt_J6_bitCount_0f7a4 25 rfl) (by decide) ?_
  refine wr_iload_n (wg_da dt_J6_bitCount_0f7a4 26 rfl) rfl ?_
  refine wr_iload_n (wg_da dt_J6_bitCount_0f7a4 27 rfl) rfl ?_
  refine wr_bipush (8 : Int32) (wg_da dt_J6_bitCount_0f7a4 28 rfl) (by decide) ?_
  refine wr_iushr (wg_da dt_J6_bitCount_0f7a4 29 rfl) ?_
  refine wr_iadd (wg_da dt_J6_bitCount_0f7a4 30 rfl) ?_
  refine wr_let h (fun v4 h => ?_)
  refine wr_istore_n (wg_da dt_J6_bitCount_0f7a4 31 rfl) (by decide) ?_
  refine wr_iload_n (wg_da dt_J6_bitCount_0f7a4 32 rfl) rfl ?_
  refine wr_iload_n (wg_da dt_J6_bitCount_0f7a4 33 rfl) rfl ?_
  refine wr_bipush (16 : Int32) (wg_da dt_J6_bitCount_0f7a4 34 rfl) (by decide) ?_
  refine wr_iushr (wg_da dt_J6_bitCount_0f7a4 35 rfl) ?_
  refine wr_iadd (wg_da dt_J6_bitCount_0f7a4 36 rfl) ?_
  refine wr_let h (fun v5 h => ?_)
  refine wr_istore_n (wg_da dt_J6_bitCount_0f7a4 37 rfl) (by decide) ?_
  refine wr_iload_n (wg_da dt_J6_bitCount_0f7a4 38 rfl) rfl ?_
  refine wr_bipush (63 : Int32) (wg_da dt_J6_bitCount_0f7a4 39 rfl) (by decide) ?_
  refine wr_iand (wg_da dt_J6_bitCount_0f7a4 40 rfl) ?_
  exact wr_iret (wg_da dt_J6_bitCount_0f7a4 41 rfl) h
theorem m_J6_bitCount_0f7a4 (l : Launch) (E : wg_E) (x0 : Int32)  (σ : wg_M) (q : Int32 × wg_M) (h : f_J6_bitCount_0f7a4 x0 σ = some q) : wg_MG l E Sc yJ6_bitCount_0f7a4 cJ6_bitCount_0f7a4 1 (some .int) rm_J6_bitCount_0f7a4 [.int x0] σ (some q.1) q.2 :=
  wg_met [.int x0] (by decide +kernel) (Nat.le_of_ble_eq_true rfl) (g_J6_bitCount_0f7a4_e l E x0 σ q  h)
abbrev rm_X0_allRules : Room := { frames := 0, cells := 0, slots := 0, locals := 0 }
def tb_X0_allRules : List (Nat × Instr × Nat) := [(0, .iconst 0, 1), (1, .istore_n 1, 1), (2, .iconst 0, 1), (3, .istore_n 2, 1), (4, .iload_n 2, 1), (5, .aload_n 0, 1), (6, .getfield 12, 3), (9, .getfield 75, 3), (12, .if_icmp .ge 21, 3), (15, .iload_n 1, 1), (16, .aload_n 0, 1), (17, .getfield 12, 3), (20, .getfield 84, 3), (23, .iload_n 2, 1), (24, .iaload, 1), (25, .iadd, 1), (26, .istore_n 1, 1), (27, .iinc 2 1, 3), (30, .goto (-26), 3), (33, .iload_n 1, 1), (34, .ireturn, 1)]
theorem dt_X0_allRules : wg_dc cX0_allRules tb_X0_allRules := by unfold wg_dc; decide +kernel
def f_X0_allRules_4  : Nat → Nat → Int32 → Int32 → wg_M → Option (Int32 × wg_M)
  | 0, _, _, _, _ => none
  | n + 1, x0, x1, x2, σ => if (σ (wg_r Sc x0 0) 8) ≤ x2 then (some (x1, σ)) else (wg_ga (wg_n Sc (wg_r Sc (wg_r Sc x0 0) 4)) (σ (wg_r Sc (wg_r Sc x0 0) 4)) x2 (fun v1 => wg_let (x1 + v1) (fun v2 => wg_let (x2 + (1 : Int32)) (fun v3 => f_X0_allRules_4  n x0 v2 v3 σ))))
def f_X0_allRules  (x0 : Nat) (σ : wg_M) : Option (Int32 × wg_M) := f_X0_allRules_4  wg_N x0 (0 : Int32) (0 : Int32) σ
set_option maxRecDepth 20000 in
theorem g_X0_allRules_4 (l : Launch) (E : wg_E)  (z : Int32 × wg_M) : ∀ (n : Nat) (x0 : Nat) (x1 : Int32) (x2 : Int32) (σ : wg_M) (hx0 : wg_t Sc x0 = 2) (h : f_X0_allRules_4  n x0 x1 x2 σ = some z), wg_G l E Sc "WornWigs$Bench" cX0_allRules 3 (some .int) rm_X0_allRules (some z.1) z.2 4 [some (.ref x0), some (.int x1), some (.int x2)] [] σ := by
  intro n
  induction n with
  | zero => intro x0 x1 x2 σ hx0 h; cases h
  | succ n ih =>
    intro x0 x1 x2 σ hx0 h
    refine wr_iload_n (wg_da dt_X0_allRules 4 rfl) rfl ?_
    refine wr_aload_n (wg_da dt_X0_allRules 5 rfl) rfl ?_
    refine wr_getR wf_X0_12 (wg_da dt_X0_allRules 6 rfl) hx0 ?_
    refine wr_getI wf_X0_75 (wg_da dt_X0_allRules 7 rfl) (wg_ty Sc_ok 0 0 11 hx0 rfl (by decide)).2 ?_
    refine wr_icmp_ge 33 (wg_da dt_X0_allRules 8 rfl) (by decide) h (fun h => ?_) (fun h => ?_)
    · refine wr_iload_n (wg_da dt_X0_allRules 19 rfl) rfl ?_
      exact wr_iret (wg_da dt_X0_allRules 20 rfl) h
    · refine wr_iload_n (wg_da dt_X0_allRules 9 rfl) rfl ?_
      refine wr_aload_n (wg_da dt_X0_allRules 10 rfl) rfl ?_
      refine wr_getR wf_X0_12 (wg_da dt_X0_allRules 11 rfl) hx0 ?_
      refine wr_getR wf_X0_84 (wg_da dt_X0_allRules 12 rfl) (wg_ty Sc_ok 0 0 11 hx0 rfl (by decide)).2 ?_
      refine wr_iload_n (wg_da dt_X0_allRules 13 rfl) rfl ?_
      refine wr_iald (wg_da dt_X0_allRules 14 rfl) (wg_ty Sc_ok 9 4 0 (wg_ty Sc_ok 0 0 11 hx0 rfl (by decide)).2 rfl (by decide)).2 h (fun v1 h => ?_)
      refine wr_iadd (wg_da dt_X0_allRules 15 rfl) ?_
      refine wr_let h (fun v2 h => ?_)
      refine wr_istore_n (wg_da dt_X0_allRules 16 rfl) (by decide) ?_
      refine wr_iinc (c0 := (1 : Int32)) (wg_da dt_X0_allRules 17 rfl) rfl (by decide) (by decide) h (fun v3 h => ?_)
      refine wr_goto 4 (wg_da dt_X0_allRules 18 rfl) (by decide) ?_
      exact wr_wk [true, true, true] (ih x0 v2 v3 σ hx0 h)
set_option maxRecDepth 20000 in
theorem g_X0_allRules_e (l : Launch) (E : wg_E)  (x0 : Nat) (σ : wg_M) (z : Int32 × wg_M) (hx0 : wg_t Sc x0 = 2) (h : f_X0_allRules  x0 σ = some z) : wg_G l E Sc "WornWigs$Bench" cX0_allRules 3 (some .int) rm_X0_allRules (some z.1) z.2 0 [some (.ref x0), none, none] [] σ := by
  refine wr_iconst (0 : Int32) (wg_da dt_X0_allRules 0 rfl) (by decide) ?_
  refine wr_istore_n (wg_da dt_X0_allRules 1 rfl) (by decide) ?_
  refine wr_iconst (0 : Int32) (wg_da dt_X0_allRules 2 rfl) (by decide) ?_
  refine wr_istore_n (wg_da dt_X0_allRules 3 rfl) (by decide) ?_
  exact wr_wk [true, true, true] (g_X0_allRules_4 l E  _  wg_N x0 (0 : Int32) (0 : Int32) σ hx0 h)
theorem m_X0_allRules (l : Launch) (E : wg_E) (x0 : Nat) (hx0 : wg_t Sc x0 = 2) (σ : wg_M) (q : Int32 × wg_M) (h : f_X0_allRules x0 σ = some q) : wg_MG l E Sc yX0_allRules cX0_allRules 3 (some .int) rm_X0_allRules [.ref x0] σ (some q.1) q.2 :=
  wg_met [.ref x0] (plainFor_of_name (by decide)) (Nat.le_of_ble_eq_true rfl) (g_X0_allRules_e l E x0 σ q hx0 h)
abbrev rm_X9_hairOf : Room := { frames := 0, cells := 0, slots := 0, locals := 0 }
def tb_X9_hairOf : List (Nat × Instr × Nat) := [(0, .iconst 0, 1), (1, .istore_n 2, 1), (2, .iconst 0, 1), (3, .istore_n 3, 1), (4, .iload_n 3, 1), (5, .aload_n 0, 1), (6, .getfield 40, 3), (9, .if_icmp .ge 27, 3), (12, .iload_n 1, 1), (13, .iload_n 3, 1), (14, .ishr, 1), (15, .iconst 1, 1), (16, .iand, 1), (17, .iconst 1, 1), (18, .if_icmp .ne 12, 3), (21, .iload_n 2, 1), (22, .aload_n 0, 1), (23, .getfield 15, 3), (26, .iload_n 3, 1), (27, .iaload, 1), (28, .iadd, 1), (29, .istore_n 2, 1), (30, .iinc 3 1, 3), (33, .goto (-29), 3), (36, .iload_n 2, 1), (37, .ireturn, 1)]
theorem dt_X9_hairOf : wg_dc cX9_hairOf tb_X9_hairOf := by unfold wg_dc; decide +kernel
def f_X9_hairOf_30 (k4 : Nat → Int32 → Int32 → Int32 → wg_M → Option (Int32 × wg_M)) (x0 : Nat) (x1 : Int32) (x2 : Int32) (x3 : Int32) (σ : wg_M) : Option (Int32 × wg_M) := wg_let (x3 + (1 : Int32)) (fun v1 => k4 x0 x1 x2 v1 σ)
def f_X9_hairOf_4  : Nat → Nat → Int32 → Int32 → Int32 → wg_M → Option (Int32 × wg_M)
  | 0, _, _, _, _, _ => none
  | n + 1, x0, x1, x2, x3, σ => if (σ x0 8) ≤ x3 then (some (x2, σ)) else (if ((x1 >>> (x3 &&& 31)) &&& (1 : Int32)) = (1 : Int32) then (wg_ga (wg_n Sc (wg_r Sc x0 1)) (σ (wg_r Sc x0 1)) x3 (fun v1 => wg_let (x2 + v1) (fun v2 => f_X9_hairOf_30 (f_X9_hairOf_4  n) x0 x1 v2 x3 σ))) else (f_X9_hairOf_30 (f_X9_hairOf_4  n) x0 x1 x2 x3 σ))
def f_X9_hairOf  (x0 : Nat) (x1 : Int32) (σ : wg_M) : Option (Int32 × wg_M) := f_X9_hairOf_4  wg_N x0 x1 (0 : Int32) (0 : Int32) σ
set_option maxRecDepth 20000 in
theorem g_X9_hairOf_30 (l : Launch) (E : wg_E) (k4 : Nat → Int32 → Int32 → Int32 → wg_M → Option (Int32 × wg_M)) (x0 : Nat) (x1 : Int32) (x2 : Int32) (x3 : Int32) (σ : wg_M) (z : Int32 × wg_M) (hx0 : wg_t Sc x0 = 11) (hk4 : ∀ (x0 : Nat) (x1 : Int32) (x2 : Int32) (x3 : Int32) (σ : wg_M), wg_t Sc x0 = 11 → k4 x0 x1 x2 x3 σ = some z → wg_G l E Sc "WornWigs$Wigs" cX9_hairOf 4 (some .int) rm_X9_hairOf (some z.1) z.2 4 [some (.ref x0), some (.int x1), some (.int x2), some (.int x3)] [] σ) (h : f_X9_hairOf_30 k4 x0 x1 x2 x3 σ = some z) : wg_G l E Sc "WornWigs$Wigs" cX9_hairOf 4 (some .int) rm_X9_hairOf (some z.1) z.2 30 [some (.ref x0), some (.int x1), some (.int x2), some (.int x3)] [] σ := by
  refine wr_iinc (c0 := (1 : Int32)) (wg_da dt_X9_hairOf 22 rfl) rfl (by decide) (by decide) h (fun v1 h => ?_)
  refine wr_goto 4 (wg_da dt_X9_hairOf 23 rfl) (by decide) ?_
  exact wr_wk [true, true, true, true] (hk4 x0 x1 x2 v1 σ hx0 h)
set_option maxRecDepth 20000 in
theorem g_X9_hairOf_4 (l : Launch) (E : wg_E)  (z : Int32 × wg_M) : ∀ (n : Nat) (x0 : Nat) (x1 : Int32) (x2 : Int32) (x3 : Int32) (σ : wg_M) (hx0 : wg_t Sc x0 = 11) (h : f_X9_hairOf_4  n x0 x1 x2 x3 σ = some z), wg_G l E Sc "WornWigs$Wigs" cX9_hairOf 4 (some .int) rm_X9_hairOf (some z.1) z.2 4 [some (.ref x0), some (.int x1), some (.int x2), some (.int x3)] [] σ := by
  intro n
  induction n with
  | zero => intro x0 x1 x2 x3 σ hx0 h; cases h
  | succ n ih =>
    intro x0 x1 x2 x3 σ hx0 h
    refine wr_iload_n (wg_da dt_X9_hairOf 4 rfl) rfl ?_
    refine wr_aload_n (wg_da dt_X9_hairOf 5 rfl) rfl ?_
    refine wr_getI wf_X9_40 (wg_da dt_X9_hairOf 6 rfl) hx0 ?_
    refine wr_icmp_ge 36 (wg_da dt_X9_hairOf 7 rfl) (by decide) h (fun h => ?_) (fun h => ?_)
    · refine wr_iload_n (wg_da dt_X9_hairOf 24 rfl) rfl ?_
      exact wr_iret (wg_da dt_X9_hairOf 25 rfl) h
    · refine wr_iload_n (wg_da dt_X9_hairOf 8 rfl) rfl ?_
      refine wr_iload_n (wg_da dt_X9_hairOf 9 rfl) rfl ?_
      refine wr_ishr (wg_da dt_X9_hairOf 10 rfl) ?_
      refine wr_iconst (1 : Int32) (wg_da dt_X9_hairOf 11 rfl) (by decide) ?_
      refine wr_iand (wg_da dt_X9_hairOf 12 rfl) ?_
      refine wr_iconst (1 : Int32) (wg_da dt_X9_hairOf 13 rfl) (by decide) ?_
      refine wr_icmp_ne 30 (wg_da dt_X9_hairOf 14 rfl) (by decide) h (fun h => ?_) (fun h => ?_)
      · refine wr_iload_n (wg_da dt_X9_hairOf 15 rfl) rfl ?_
        refine wr_aload_n (wg_da dt_X9_hairOf 16 rfl) rfl ?_
        refine wr_getR wf_X9_15 (wg_da dt_X9_hairOf 17 rfl) hx0 ?_
        refine wr_iload_n (wg_da dt_X9_hairOf 18 rfl) rfl ?_
        refine wr_iald (wg_da dt_X9_hairOf 19 rfl) (wg_ty Sc_ok 9 1 0 hx0 rfl (by decide)).2 h (fun v1 h => ?_)
        refine wr_iadd (wg_da dt_X9_hairOf 20 rfl) ?_
        refine wr_let h (fun v2 h => ?_)
        refine wr_istore_n (wg_da dt_X9_hairOf 21 rfl) (by decide) ?_
        exact wr_wk [true, true, true, true] (g_X9_hairOf_30 l E (f_X9_hairOf_4  n) x0 x1 v2 x3 σ _ hx0 (fun x0 x1 x2 x3 σ hx0 h => ih x0 x1 x2 x3 σ hx0 h) h)
      · exact wr_wk [true, true, true, true] (g_X9_hairOf_30 l E (f_X9_hairOf_4  n) x0 x1 x2 x3 σ _ hx0 (fun x0 x1 x2 x3 σ hx0 h => ih x0 x1 x2 x3 σ hx0 h) h)
set_option maxRecDepth 20000 in
theorem g_X9_hairOf_e (l : Launch) (E : wg_E)  (x0 : Nat) (x1 : Int32) (σ : wg_M) (z : Int32 × wg_M) (hx0 : wg_t Sc x0 = 11) (h : f_X9_hairOf  x0 x1 σ = some z) : wg_G l E Sc "WornWigs$Wigs" cX9_hairOf 4 (some .int) rm_X9_hairOf (some z.1) z.2 0 [some (.ref x0), some (.int x1), none, none] [] σ := by
  refine wr_iconst (0 : Int32) (wg_da dt_X9_hairOf 0 rfl) (by decide) ?_
  refine wr_istore_n (wg_da dt_X9_hairOf 1 rfl) (by decide) ?_
  refine wr_iconst (0 : Int32) (wg_da dt_X9_hairOf 2 rfl) (by decide) ?_
  refine wr_istore_n (wg_da dt_X9_hairOf 3 rfl) (by decide) ?_
  exact wr_wk [true, true, true, true] (g_X9_hairOf_4 l E  _  wg_N x0 x1 (0 : Int32) (0 : Int32) σ hx0 h)
theorem m_X9_hairOf (l : Launch) (E : wg_E) (x0 : Nat) (x1 : Int32) (hx0 : wg_t Sc x0 = 11) (σ : wg_M) (q : Int32 × wg_M) (h : f_X9_hairOf x0 x1 σ = some q) : wg_MG l E Sc yX9_hairOf cX9_hairOf 4 (some .int) rm_X9_hairOf [.ref x0, .int x1] σ (some q.1) q.2 :=
  wg_met [.ref x0, .int x1] (plainFor_of_name (by decide)) (Nat.le_of_ble_eq_true rfl) (g_X9_hairOf_e l E x0 x1 σ q hx0 h)
abbrev rm_X0_verdictsAbove : Room := { frames := 0, cells := 0, slots := 0, locals := 0 }
def tb_X0_verdictsAbove : List (Nat × Instr × Nat) := [(0, .iconst 0, 1), (1, .istore_n 1, 1), (2, .iconst 0, 1), (3, .istore_n 2, 1), (4, .iload_n 2, 1), (5, .aload_n 0, 1), (6, .getfield 49, 3), (9, .if_icmp .ge 21, 3), (12, .aload_n 0, 1), (13, .getfield 32, 3), (16, .iload_n 2, 1), (17, .iaload, 1), (18, .ifCond .le 6, 3), (21, .iinc 1 1, 3), (24, .iinc 2 1, 3), (27, .goto (-23), 3), (30, .iload_n 1, 1), (31, .ireturn, 1)]
theorem dt_X0_verdictsAbove : wg_dc cX0_verdictsAbove tb_X0_verdictsAbove := by unfold wg_dc; decide +kernel
def f_X0_verdictsAbove_24 (k4 : Nat → Int32 → Int32 → wg_M → Option (Int32 × wg_M)) (x0 : Nat) (x1 : Int32) (x2 : Int32) (σ : wg_M) : Option (Int32 × wg_M) := wg_let (x2 + (1 : Int32)) (fun v1 => k4 x0 x1 v1 σ)
def f_X0_verdictsAbove_4  : Nat → Nat → Int32 → Int32 → wg_M → Option (Int32 × wg_M)
  | 0, _, _, _, _ => none
  | n + 1, x0, x1, x2, σ => if (σ x0 6) ≤ x2 then (some (x1, σ)) else (wg_ga (wg_n Sc (wg_r Sc x0 4)) (σ (wg_r Sc x0 4)) x2 (fun v1 => if v1 ≤ 0 then (f_X0_verdictsAbove_24 (f_X0_verdictsAbove_4  n) x0 x1 x2 σ) else (wg_let (x1 + (1 : Int32)) (fun v2 => f_X0_verdictsAbove_24 (f_X0_verdictsAbove_4  n) x0 v2 x2 σ))))
def f_X0_verdictsAbove  (x0 : Nat) (σ : wg_M) : Option (Int32 × wg_M) := f_X0_verdictsAbove_4  wg_N x0 (0 : Int32) (0 : Int32) σ
set_option maxRecDepth 20000 in
theorem g_X0_verdictsAbove_24 (l : Launch) (E : wg_E) (k4 : Nat → Int32 → Int32 → wg_M → Option (Int32 × wg_M)) (x0 : Nat) (x1 : Int32) (x2 : Int32) (σ : wg_M) (z : Int32 × wg_M) (hx0 : wg_t Sc x0 = 2) (hk4 : ∀ (x0 : Nat) (x1 : Int32) (x2 : Int32) (σ : wg_M), wg_t Sc x0 = 2 → k4 x0 x1 x2 σ = some z → wg_G l E Sc "WornWigs$Bench" cX0_verdictsAbove 3 (some .int) rm_X0_verdictsAbove (some z.1) z.2 4 [some (.ref x0), some (.int x1), some (.int x2)] [] σ) (h : f_X0_verdictsAbove_24 k4 x0 x1 x2 σ = some z) : wg_G l E Sc "WornWigs$Bench" cX0_verdictsAbove 3 (some .int) rm_X0_verdictsAbove (some z.1) z.2 24 [some (.ref x0), some (.int x1), some (.int x2)] [] σ := by
  refine wr_iinc (c0 := (1 : Int32)) (wg_da dt_X0_verdictsAbove 14 rfl) rfl (by decide) (by decide) h (fun v1 h => ?_)
  refine wr_goto 4 (wg_da dt_X0_verdictsAbove 15 rfl) (by decide) ?_
  exact wr_wk [true, true, true] (hk4 x0 x1 v1 σ hx0 h)
set_option maxRecDepth 20000 in
theorem g_X0_verdictsAbove_4 (l : Launch) (E : wg_E)  (z : Int32 × wg_M) : ∀ (n : Nat) (x0 : Nat) (x1 : Int32) (x2 : Int32) (σ : wg_M) (hx0 : wg_t Sc x0 = 2) (h : f_X0_verdictsAbove_4  n x0 x1 x2 σ = some z), wg_G l E Sc "WornWigs$Bench" cX0_verdictsAbove 3 (some .int) rm_X0_verdictsAbove (some z.1) z.2 4 [some (.ref x0), some (.int x1), some (.int x2)] [] σ := by
  intro n
  induction n with
  | zero => intro x0 x1 x2 σ hx0 h; cases h
  | succ n ih =>
    intro x0 x1 x2 σ hx0 h
    refine wr_iload_n (wg_da dt_X0_verdictsAbove 4 rfl) rfl ?_
    refine wr_aload_n (wg_da dt_X0_verdictsAbove 5 rfl) rfl ?_
    refine wr_getI wf_X0_49 (wg_da dt_X0_verdictsAbove 6 rfl) hx0 ?_
    refine wr_icmp_ge 30 (wg_da dt_X0_verdictsAbove 7 rfl) (by decide) h (fun h => ?_) (fun h => ?_)
    · refine wr_iload_n (wg_da dt_X0_verdictsAbove 16 rfl) rfl ?_
      exact wr_iret (wg_da dt_X0_verdictsAbove 17 rfl) h
    · refine wr_aload_n (wg_da dt_X0_verdictsAbove 8 rfl) rfl ?_
      refine wr_getR wf_X0_32 (wg_da dt_X0_verdictsAbove 9 rfl) hx0 ?_
      refine wr_iload_n (wg_da dt_X0_verdictsAbove 10 rfl) rfl ?_
      refine wr_iald (wg_da dt_X0_verdictsAbove 11 rfl) (wg_ty Sc_ok 0 4 0 hx0 rfl (by decide)).2 h (fun v1 h => ?_)
      refine wr_if_le 24 (wg_da dt_X0_verdictsAbove 12 rfl) (by decide) h (fun h => ?_) (fun h => ?_)
      · exact wr_wk [true, true, true] (g_X0_verdictsAbove_24 l E (f_X0_verdictsAbove_4  n) x0 x1 x2 σ _ hx0 (fun x0 x1 x2 σ hx0 h => ih x0 x1 x2 σ hx0 h) h)
      · refine wr_iinc (c0 := (1 : Int32)) (wg_da dt_X0_verdictsAbove 13 rfl) rfl (by decide) (by decide) h (fun v2 h => ?_)
        exact wr_wk [true, true, true] (g_X0_verdictsAbove_24 l E (f_X0_verdictsAbove_4  n) x0 v2 x2 σ _ hx0 (fun x0 x1 x2 σ hx0 h => ih x0 x1 x2 σ hx0 h) h)
set_option maxRecDepth 20000 in
theorem g_X0_verdictsAbove_e (l : Launch) (E : wg_E)  (x0 : Nat) (σ : wg_M) (z : Int32 × wg_M) (hx0 : wg_t Sc x0 = 2) (h : f_X0_verdictsAbove  x0 σ = some z) : wg_G l E Sc "WornWigs$Bench" cX0_verdictsAbove 3 (some .int) rm_X0_verdictsAbove (some z.1) z.2 0 [some (.ref x0), none, none] [] σ := by
  refine wr_iconst (0 : Int32) (wg_da dt_X0_verdictsAbove 0 rfl) (by decide) ?_
  refine wr_istore_n (wg_da dt_X0_verdictsAbove 1 rfl) (by decide) ?_
  refine wr_iconst (0 : Int32) (wg_da dt_X0_verdictsAbove 2 rfl) (by decide) ?_
  refine wr_istore_n (wg_da dt_X0_verdictsAbove 3 rfl) (by decide) ?_
  exact wr_wk [true, true, true] (g_X0_verdictsAbove_4 l E  _  wg_N x0 (0 : Int32) (0 : Int32) σ hx0 h)
theorem m_X0_verdictsAbove (l : Launch) (E : wg_E) (x0 : Nat) (hx0 : wg_t Sc x0 = 2) (σ : wg_M) (q : Int32 × wg_M) (h : f_X0_verdictsAbove x0 σ = some q) : wg_MG l E Sc yX0_verdictsAbove cX0_verdictsAbove 3 (some .int) rm_X0_verdictsAbove [.ref x0] σ (some q.1) q.2 :=
  wg_met [.ref x0] (plainFor_of_name (by decide)) (Nat.le_of_ble_eq_true rfl) (g_X0_verdictsAbove_e l E x0 σ q hx0 h)
abbrev rm_X0_sumUp : Room := { frames := 1, cells := 0, slots := 0, locals := 23 }
def tb_X0_sumUp : List (Nat × Instr × Nat) := [(0, .iload_n 1, 1), (1, .tableswitch 62 0 2 #[27, 38, 43], 27), (28, .aload_n 0, 1), (29, .getfield 21, 3), (32, .invokevirtual 62, 3), (35, .invokestatic 66, 3), (38, .ireturn, 1), (39, .aload_n 0, 1), (40, .invokevirtual 72, 3), (43, .ireturn, 1), (44, .aload_n 0, 1), (45, .getfield 12, 3), (48, .iconst 1, 1), (49, .aload_n 0, 1), (50, .getfield 12, 3), (53, .getfield 75, 3), (56, .ishl, 1), (57, .iconst 1, 1), (58, .isub, 1), (59, .invokevirtual 78, 3), (62, .ireturn, 1), (63, .aload_n 0, 1), (64, .invokevirtual 81, 3), (67, .ireturn, 1)]
theorem dt_X0_sumUp : wg_dc cX0_sumUp tb_X0_sumUp := by unfold wg_dc; decide +kernel
def f_X0_sumUp  (x0 : Nat) (x1 : Int32) (σ : wg_M) : Option (Int32 × wg_M) := wg_sw x1 (0) [wg_bd (f_X2_deadSet (wg_r Sc x0 1) σ) (fun v1 s2 => wg_bd (f_J6_bitCount_0f7a4 v1 s2) (fun v3 s4 => some (v3, s4))), wg_bd (f_X0_allRules x0 σ) (fun v5 s6 => some (v5, s6)), wg_bd (f_X9_hairOf (wg_r Sc x0 0) (((1 : Int32) <<< ((σ (wg_r Sc x0 0) 8) &&& 31)) - (1 : Int32)) σ) (fun v7 s8 => some (v7, s8))] (wg_bd (f_X0_verdictsAbove x0 σ) (fun v9 s10 => some (v9, s10)))
set_option maxRecDepth 20000 in
theorem g_X0_sumUp_e (l : Launch) (E : wg_E)  (x0 : Nat) (x1 : Int32) (σ : wg_M) (z : Int32 × wg_M) (hx0 : wg_t Sc x0 = 2) (h : f_X0_sumUp  x0 x1 σ = some z) : wg_G l E Sc "WornWigs$Bench" cX0_sumUp 2 (some .int) rm_X0_sumUp (some z.1) z.2 0 [some (.ref x0), some (.int x1)] [] σ := by
  refine wr_iload_n (wg_da dt_X0_sumUp 0 rfl) rfl ?_
  refine wr_tsw [28, 39, 44] 63 (wg_da dt_X0_sumUp 1 rfl) rfl rfl (by decide) (by decide) h (wg_all_c (fun h => ?_) (wg_all_c (fun h => ?_) (wg_all_c (fun h => ?_) (wg_all_n)))) (fun h => ?_)
  · refine wr_aload_n (wg_da dt_X0_sumUp 2 rfl) rfl ?_
    refine wr_getR wf_X0_21 (wg_da dt_X0_sumUp 3 rfl) hx0 ?_
    refine wr_callVi [] [] (wg_da dt_X0_sumUp 4 rfl) ⟨wq_5_79, wq_5_80, wq_5_81⟩ (wg_ty Sc_ok 0 1 4 hx0 rfl (by decide)).2 ⟨rfl, by decide⟩ wy_X2_deadSet (fun q hq => m_X2_deadSet l E (wg_r Sc x0 1) (wg_ty Sc_ok 0 1 4 hx0 rfl (by decide)).2 _ q hq) rfl rfl (Nat.le_of_ble_eq_true rfl) ⟨rfl, rfl, by decide, by decide⟩ h (fun v1 s2 h => ?_)
    refine wr_callSi [.int v1] [] (wg_da dt_X0_sumUp 5 rfl) ⟨wq_5_83, wq_3_92⟩ wy_J6_bitCount_0f7a4 (fun q hq => m_J6_bitCount_0f7a4 l E v1  _ q hq) rfl rfl (Nat.le_of_ble_eq_true rfl) ⟨rfl, rfl, by decide, by decide⟩ h (fun v3 s4 h => ?_)
    exact wr_iret (wg_da dt_X0_sumUp 6 rfl) h
  · refine wr_aload_n (wg_da dt_X0_sumUp 7 rfl) rfl ?_
    refine wr_callVi [] [] (wg_da dt_X0_sumUp 8 rfl) ⟨wq_5_84, wq_5_86, wq_p3_6⟩ hx0 ⟨rfl, by decide⟩ wy_X0_allRules (fun q hq => m_X0_allRules l E x0 hx0 _ q hq) rfl rfl (Nat.le_of_ble_eq_true rfl) ⟨rfl, rfl, by decide, by decide⟩ h (fun v5 s6 h => ?_)
    exact wr_iret (wg_da dt_X0_sumUp 9 rfl) h
  · refine wr_aload_n (wg_da dt_X0_sumUp 10 rfl) rfl ?_
    refine wr_getR wf_X0_12 (wg_da dt_X0_sumUp 11 rfl) hx0 ?_
    refine wr_iconst (1 : Int32) (wg_da dt_X0_sumUp 12 rfl) (by decide) ?_
    refine wr_aload_n (wg_da dt_X0_sumUp 13 rfl) rfl ?_
    refine wr_getR wf_X0_12 (wg_da dt_X0_sumUp 14 rfl) hx0 ?_
    refine wr_getI wf_X0_75 (wg_da dt_X0_sumUp 15 rfl) (wg_ty Sc_ok 0 0 11 hx0 rfl (by decide)).2 ?_
    refine wr_ishl (wg_da dt_X0_sumUp 16 rfl) ?_
    refine wr_iconst (1 : Int32) (wg_da dt_X0_sumUp 17 rfl) (by decide) ?_
    refine wr_isub (wg_da dt_X0_sumUp 18 rfl) ?_
    refine wr_callVi [.int (((1 : Int32) <<< ((σ (wg_r Sc x0 0) 8) &&& 31)) - (1 : Int32))] [] (wg_da dt_X0_sumUp 19 rfl) ⟨wq_5_88, wq_5_89, wq_5_90⟩ (wg_ty Sc_ok 0 0 11 hx0 rfl (by decide)).2 ⟨rfl, by decide⟩ wy_X9_hairOf (fun q hq => m_X9_hairOf l E (wg_r Sc x0 0) (((1 : Int32) <<< ((σ (wg_r Sc x0 0) 8) &&& 31)) - (1 : Int32)) (wg_ty Sc_ok 0 0 11 hx0 rfl (by decide)).2 _ q hq) rfl rfl (Nat.le_of_ble_eq_true rfl) ⟨rfl, rfl, by decide, by decide⟩ h (fun v7 s8 h => ?_)
    exact wr_iret (wg_da dt_X0_sumUp 20 rfl) h
  · refine wr_aload_n (wg_da dt_X0_sumUp 21 rfl) rfl ?_
    refine wr_callVi [] [] (wg_da dt_X0_sumUp 22 rfl) ⟨wq_5_92, wq_5_94, wq_p3_7⟩ hx0 ⟨rfl, by decide⟩ wy_X0_verdictsAbove (fun q hq => m_X0_verdictsAbove l E x0 hx0 _ q hq) rfl rfl (Nat.le_of_ble_eq_true rfl) ⟨rfl, rfl, by decide, by decide⟩ h (fun v9 s10 h => ?_)
    exact wr_iret (wg_da dt_X0_sumUp 23 rfl) h
theorem m_X0_sumUp (l : Launch) (E : wg_E) (x0 : Nat) (x1 : Int32) (hx0 : wg_t Sc x0 = 2) (σ : wg_M) (q : Int32 × wg_M) (h : f_X0_sumUp x0 x1 σ = some q) : wg_MG l E Sc yX0_sumUp cX0_sumUp 2 (some .int) rm_X0_sumUp [.ref x0, .int x1] σ (some q.1) q.2 :=
  wg_met [.ref x0, .int x1] (plainFor_of_name (by decide)) (Nat.le_of_ble_eq_true rfl) (g_X0_sumUp_e l E x0 x1 σ q hx0 h)
abbrev rm_X0_draw : Room := { frames := 0, cells := 0, slots := 0, locals := 0 }
def tb_X0_draw : List (Nat × Instr × Nat) := [(0, .aload_n 0, 1), (1, .aload_n 0, 1), (2, .getfield 56, 3), (5, .ldc 87, 2), (7, .imul, 1), (8, .ldc 88, 2), (10, .iadd, 1), (11, .putfield 56, 3), (14, .iload_n 1, 1), (15, .ifCond .le 15, 3), (18, .aload_n 0, 1), (19, .getfield 56, 3), (22, .bipush 8, 2), (24, .iushr, 1), (25, .iload_n 1, 1), (26, .irem, 1), (27, .goto 4, 3), (30, .iconst 0, 1), (31, .ireturn, 1)]
theorem dt_X0_draw : wg_dc cX0_draw tb_X0_draw := by unfold wg_dc; decide +kernel
def f_X0_draw  (x0 : Nat) (x1 : Int32) (σ : wg_M) : Option (Int32 × wg_M) := wg_st σ x0 8 (((σ x0 8) * (1664525 : Int32)) + (1013904223 : Int32)) (fun s1 => if x1 ≤ 0 then (some ((0 : Int32), s1)) else (wg_rm (wg_ush (s1 x0 8) (8 : Int32)) x1 (fun v2 => some (v2, s1))))
set_option maxRecDepth 20000 in
theorem g_X0_draw_e (l : Launch) (E : wg_E)  (x0 : Nat) (x1 : Int32) (σ : wg_M) (z : Int32 × wg_M) (hx0 : wg_t Sc x0 = 2) (h : f_X0_draw  x0 x1 σ = some z) : wg_G l E Sc "WornWigs$Bench" cX0_draw 2 (some .int) rm_X0_draw (some z.1) z.2 0 [some (.ref x0), some (.int x1)] [] σ := by
  refine wr_aload_n (wg_da dt_X0_draw 0 rfl) rfl ?_
  refine wr_aload_n (wg_da dt_X0_draw 1 rfl) rfl ?_
  refine wr_getI wf_X0_56 (wg_da dt_X0_draw 2 rfl) hx0 ?_
  refine wr_ldc (v := (1664525 : Int32)) (wg_da dt_X0_draw 3 rfl) wq_4_47 ?_
  refine wr_imul (wg_da dt_X0_draw 4 rfl) ?_
  refine wr_ldc (v := (1013904223 : Int32)) (wg_da dt_X0_draw 5 rfl) wq_4_48 ?_
  refine wr_iadd (wg_da dt_X0_draw 6 rfl) ?_
  refine wr_putI wfp_X0_56 (wg_da dt_X0_draw 7 rfl) hx0 h (fun s1 h => ?_)
  refine wr_iload_n (wg_da dt_X0_draw 8 rfl) rfl ?_
  refine wr_if_le 30 (wg_da dt_X0_draw 9 rfl) (by decide) h (fun h => ?_) (fun h => ?_)
  · refine wr_iconst (0 : Int32) (wg_da dt_X0_draw 17 rfl) (by decide) ?_
    exact wr_iret (wg_da dt_X0_draw 18 rfl) h
  · refine wr_aload_n (wg_da dt_X0_draw 10 rfl) rfl ?_
    refine wr_getI wf_X0_56 (wg_da dt_X0_draw 11 rfl) hx0 ?_
    refine wr_bipush (8 : Int32) (wg_da dt_X0_draw 12 rfl) (by decide) ?_
    refine wr_iushr (wg_da dt_X0_draw 13 rfl) ?_
    refine wr_iload_n (wg_da dt_X0_draw 14 rfl) rfl ?_
    refine wr_irem (wg_da dt_X0_draw 15 rfl) h (fun v2 h => ?_)
    refine wr_goto 31 (wg_da dt_X0_draw 16 rfl) (by decide) ?_
    exact wr_iret (wg_da dt_X0_draw 18 rfl) h
theorem m_X0_draw (l : Launch) (E : wg_E) (x0 : Nat) (x1 : Int32) (hx0 : wg_t Sc x0 = 2) (σ : wg_M) (q : Int32 × wg_M) (h : f_X0_draw x0 x1 σ = some q) : wg_MG l E Sc yX0_draw cX0_draw 2 (some .int) rm_X0_draw [.ref x0, .int x1] σ (some q.1) q.2 :=
  wg_met [.ref x0, .int x1] (plainFor_of_name (by decide)) (Nat.le_of_ble_eq_true rfl) (g_X0_draw_e l E x0 x1 σ q hx0 h)
abbrev rm_X1_beginThought : Room := { frames := 4, cells := 0, slots := 0, locals := 103 }
def tb_X1_beginThought : List (Nat × Instr × Nat) := [(0, .aload_n 0, 1), (1, .getfield 12, 3), (4, .aload_n 0, 1), (5, .getfield 27, 3), (8, .invokevirtual 43, 3), (11, .aload_n 0, 1), (12, .iconst 1, 1), (13, .putfield 47, 3), (16, .return_, 1)]
theorem dt_X1_beginThought : wg_dc cX1_beginThought tb_X1_beginThought := by unfold wg_dc; decide +kernel
def f_X1_beginThought  (x0 : Nat) (σ : wg_M) : Option (Int32 × wg_M) := wg_bd (f_X0_copyFrom (wg_r Sc x0 5) (wg_r Sc x0 1) σ) (fun _ s1 => wg_bz (1 : Int32) (wg_st s1 x0 6 (1 : Int32) (fun s2 => some (0, s2))))
set_option maxRecDepth 20000 in
theorem g_X1_beginThought_e (l : Launch) (E : wg_E)  (x0 : Nat) (σ : wg_M) (z : Int32 × wg_M) (hx0 : wg_t Sc x0 = 3) (h : f_X1_beginThought  x0 σ = some z) : wg_G l E Sc "WornWigs$Court" cX1_beginThought 1 none rm_X1_beginThought none z.2 0 [some (.ref x0)] [] σ := by
  refine wr_aload_n (wg_da dt_X1_beginThought 0 rfl) rfl ?_
  refine wr_getR wf_X1_12 (wg_da dt_X1_beginThought 1 rfl) hx0 ?_
  refine wr_aload_n (wg_da dt_X1_beginThought 2 rfl) rfl ?_
  refine wr_getR wf_X1_27 (wg_da dt_X1_beginThought 3 rfl) hx0 ?_
  refine wr_callVv [.ref (wg_r Sc x0 1)] [] (wg_da dt_X1_beginThought 4 rfl) ⟨wq_5_74, wq_3_135, wq_3_136⟩ (wg_ty Sc_ok 1 5 2 hx0 rfl (by decide)).2 ⟨rfl, by decide⟩ wy_X0_copyFrom (fun q hq => m_X0_copyFrom l E (wg_r Sc x0 5) (wg_r Sc x0 1) (wg_ty Sc_ok 1 5 2 hx0 rfl (by decide)).2 (wg_ty Sc_ok 1 1 2 hx0 rfl (by decide)).2 _ q hq) rfl rfl (Nat.le_of_ble_eq_true rfl) ⟨rfl, rfl, by decide, by decide⟩ h (fun _ s1 h => ?_)
  refine wr_aload_n (wg_da dt_X1_beginThought 5 rfl) rfl ?_
  refine wr_iconst (1 : Int32) (wg_da dt_X1_beginThought 6 rfl) (by decide) ?_
  refine wr_putZ wfp_X1_47 (wg_da dt_X1_beginThought 7 rfl) hx0 h (fun s2 h => ?_)
  exact wr_vret (wg_da dt_X1_beginThought 8 rfl) h
theorem m_X1_beginThought (l : Launch) (E : wg_E) (x0 : Nat) (hx0 : wg_t Sc x0 = 3) (σ : wg_M) (q : Int32 × wg_M) (h : f_X1_beginThought x0 σ = some q) : wg_MG l E Sc yX1_beginThought cX1_beginThought 1 none rm_X1_beginThought [.ref x0] σ none q.2 :=
  wg_met [.ref x0] (plainFor_of_name (by decide)) (Nat.le_of_ble_eq_true rfl) (g_X1_beginThought_e l E x0 σ q hx0 h)
abbrev rm_X1_endThought : Room := { frames := 4, cells := 0, slots := 0, locals := 103 }
def tb_X1_endThought : List (Nat × Instr × Nat) := [(0, .aload_n 0, 1), (1, .getfield 27, 3), (4, .aload_n 0, 1), (5, .getfield 12, 3), (8, .invokevirtual 43, 3), (11, .aload_n 0, 1), (12, .iconst 0, 1), (13, .putfield 47, 3), (16, .return_, 1)]
theorem dt_X1_endThought : wg_dc cX1_endThought tb_X1_endThought := by unfold wg_dc; decide +kernel
def f_X1_endThought  (x0 : Nat) (σ : wg_M) : Option (Int32 × wg_M) := wg_bd (f_X0_copyFrom (wg_r Sc x0 1) (wg_r Sc x0 5) σ) (fun _ s1 => wg_bz (0 : Int32) (wg_st s1 x0 6 (0 : Int32) (fun s2 => some (0, s2))))
set_option maxRecDepth 20000 in
theorem g_X1_endThought_e (l : Launch) (E : wg_E)  (x0 : Nat) (σ : wg_M) (z : Int32 × wg_M) (hx0 : wg_t Sc x0 = 3) (h : f_X1_endThought  x0 σ = some z) : wg_G l E Sc "WornWigs$Court" cX1_endThought 1 none rm_X1_endThought none z.2 0 [some (.ref x0)] [] σ := by
  refine wr_aload_n (wg_da dt_X1_endThought 0 rfl) rfl ?_
  refine wr_getR wf_X1_27 (wg_da dt_X1_endThought 1 rfl) hx0 ?_
  refine wr_aload_n (wg_da dt_X1_endThought 2 rfl) rfl ?_
  refine wr_getR wf_X1_12 (wg_da dt_X1_endThought 3 rfl) hx0 ?_
  refine wr_callVv [.ref (wg_r Sc x0 5)] [] (wg_da dt_X1_endThought 4 rfl) ⟨wq_5_74, wq_3_135, wq_3_136⟩ (wg_ty Sc_ok 1 1 2 hx0 rfl (by decide)).2 ⟨rfl, by decide⟩ wy_X0_copyFrom (fun q hq => m_X0_copyFrom l E (wg_r Sc x0 1) (wg_r Sc x0 5) (wg_ty Sc_ok 1 1 2 hx0 rfl (by decide)).2 (wg_ty Sc_ok 1 5 2 hx0 rfl (by decide)).2 _ q hq) rfl rfl (Nat.le_of_ble_eq_true rfl) ⟨rfl, rfl, by decide, by decide⟩ h (fun _ s1 h => ?_)
  refine wr_aload_n (wg_da dt_X1_endThought 5 rfl) rfl ?_
  refine wr_iconst (0 : Int32) (wg_da dt_X1_endThought 6 rfl) (by decide) ?_
  refine wr_putZ wfp_X1_47 (wg_da dt_X1_endThought 7 rfl) hx0 h (fun s2 h => ?_)
  exact wr_vret (wg_da dt_X1_endThought 8 rfl) h
theorem m_X1_endThought (l : Launch) (E : wg_E) (x0 : Nat) (hx0 : wg_t Sc x0 = 3) (σ : wg_M) (q : Int32 × wg_M) (h : f_X1_endThought x0 σ = some q) : wg_MG l E Sc yX1_endThought cX1_endThought 1 none rm_X1_endThought [.ref x0] σ none q.2 :=
  wg_met [.ref x0] (plainFor_of_name (by decide)) (Nat.le_of_ble_eq_true rfl) (g_X1_endThought_e l E x0 σ q hx0 h)
abbrev rm_X4_add : Room := { frames := 0, cells := 0, slots := 0, locals := 0 }
def tb_X4_add : List (Nat × Instr × Nat) := [(0, .aload_n 0, 1), (1, .getfield 34, 3), (4, .aload_n 0, 1), (5, .getfield 13, 3), (8, .arraylength, 1), (9, .if_icmp .lt 4, 3), (12, .return_, 1), (13, .aload_n 0, 1), (14, .getfield 13, 3), (17, .aload_n 0, 1), (18, .getfield 34, 3), (21, .iload_n 1, 1), (22, .iastore, 1), (23, .aload_n 0, 1), (24, .getfield 19, 3), (27, .aload_n 0, 1), (28, .getfield 34, 3), (31, .iload_n 2, 1), (32, .iastore, 1), (33, .aload_n 0, 1), (34, .getfield 22, 3), (37, .aload_n 0, 1), (38, .getfield 34, 3), (41, .iload_n 3, 1), (42, .iastore, 1), (43, .aload_n 0, 1), (44, .getfield 25, 3), (47, .aload_n 0, 1), (48, .getfield 34, 3), (51, .iload 4, 2), (53, .iastore, 1), (54, .aload_n 0, 1), (55, .dup, 1), (56, .getfield 34, 3), (59, .iconst 1, 1), (60, .iadd, 1), (61, .putfield 34, 3), (64, .return_, 1)]
theorem dt_X4_add : wg_dc cX4_add tb_X4_add := by unfold wg_dc; decide +kernel
def f_X4_add  (x0 : Nat) (x1 : Int32) (x2 : Int32) (x3 : Int32) (x4 : Int32) (σ : wg_M) : Option (Int32 × wg_M) := if (σ x0 4) < (Int32.ofNat (wg_n Sc (wg_r Sc x0 0))) then (wg_sa (wg_n Sc (wg_r Sc x0 0)) σ (wg_r Sc x0 0) (σ x0 4) x1 (fun s1 => wg_sa (wg_n Sc (wg_r Sc x0 1)) s1 (wg_r Sc x0 1) (s1 x0 4) x2 (fun s2 => wg_sa (wg_n Sc (wg_r Sc x0 2)) s2 (wg_r Sc x0 2) (s2 x0 4) x3 (fun s3 => wg_sa (wg_n Sc (wg_r Sc x0 3)) s3 (wg_r Sc x0 3) (s3 x0 4) x4 (fun s4 => wg_st s4 x0 4 ((s4 x0 4) + (1 : Int32)) (fun s5 => some (0, s5))))))) else (some (0, σ))
set_option maxRecDepth 20000 in
theorem g_X4_add_e (l : Launch) (E : wg_E)  (x0 : Nat) (x1 : Int32) (x2 : Int32) (x3 : Int32) (x4 : Int32) (σ : wg_M) (z : Int32 × wg_M) (hx0 : wg_t Sc x0 = 6) (h : f_X4_add  x0 x1 x2 x3 x4 σ = some z) : wg_G l E Sc "WornWigs$Lines" cX4_add 5 none rm_X4_add none z.2 0 [some (.ref x0), some (.int x1), some (.int x2), some (.int x3), some (.int x4)] [] σ := by
  refine wr_aload_n (wg_da dt_X4_add 0 rfl) rfl ?_
  refine wr_getI wf_X4_34 (wg_da dt_X4_add 1 rfl) hx0 ?_
  refine wr_aload_n (wg_da dt_X4_add 2 rfl) rfl ?_
  refine wr_getR wf_X4_13 (wg_da dt_X4_add 3 rfl) hx0 ?_
  refine wr_alen (Int32.ofNat (wg_n Sc (wg_r Sc x0 0))) (wg_da dt_X4_add 4 rfl) (wg_ty Sc_ok 4 0 0 hx0 rfl (by decide)).2 rfl ?_
  refine wr_icmp_lt 13 (wg_da dt_X4_add 5 rfl) (by decide) h (fun h => ?_) (fun h => ?_)
  · refine wr_aload_n (wg_da dt_X4_add 7 rfl) rfl ?_
    refine wr_getR wf_X4_13 (wg_da dt_X4_add 8 rfl) hx0 ?_
    refine wr_aload_n (wg_da dt_X4_add 9 rfl) rfl ?_
    refine wr_getI wf_X4_34 (wg_da dt_X4_add 10 rfl) hx0 ?_
    refine wr_iload_n (wg_da dt_X4_add 11 rfl) rfl ?_
    refine wr_iast (wg_da dt_X4_add 12 rfl) (wg_ty Sc_ok 4 0 0 hx0 rfl (by decide)).2 h (fun s1 h => ?_)
    refine wr_aload_n (wg_da dt_X4_add 13 rfl) rfl ?_
    refine wr_getR wf_X4_19 (wg_da dt_X4_add 14 rfl) hx0 ?_
    refine wr_aload_n (wg_da dt_X4_add 15 rfl) rfl ?_
    refine wr_getI wf_X4_34 (wg_da dt_X4_add 16 rfl) hx0 ?_
    refine wr_iload_n (wg_da dt_X4_add 17 rfl) rfl ?_
    refine wr_iast (wg_da dt_X4_add 18 rfl) (wg_ty Sc_ok 4 1 0 hx0 rfl (by decide)).2 h (fun s2 h => ?_)
    refine wr_aload_n (wg_da dt_X4_add 19 rfl) rfl ?_
    refine wr_getR wf_X4_22 (wg_da dt_X4_add 20 rfl) hx0 ?_
    refine wr_aload_n (wg_da dt_X4_add 21 rfl) rfl ?_
    refine wr_getI wf_X4_34 (wg_da dt_X4_add 22 rfl) hx0 ?_
    refine wr_iload_n (wg_da dt_X4_add 23 rfl) rfl ?_
    refine wr_iast (wg_da dt_X4_add 24 rfl) (wg_ty Sc_ok 4 2 0 hx0 rfl (by decide)).2 h (fun s3 h => ?_)
    refine wr_aload_n (wg_da dt_X4_add 25 rfl) rfl ?_
    refine wr_getR wf_X4_25 (wg_da dt_X4_add 26 rfl) hx0 ?_
    refine wr_aload_n (wg_da dt_X4_add 27 rfl) rfl ?_
    refine wr_getI wf_X4_34 (wg_da dt_X4_add 28 rfl) hx0 ?_
    refine wr_iload (wg_da dt_X4_add 29 rfl) rfl ?_
    refine wr_iast (wg_da dt_X4_add 30 rfl) (wg_ty Sc_ok 4 3 0 hx0 rfl (by decide)).2 h (fun s4 h => ?_)
    refine wr_aload_n (wg_da dt_X4_add 31 rfl) rfl ?_
    refine wr_dup (wg_da dt_X4_add 32 rfl) ?_
    refine wr_getI wf_X4_34 (wg_da dt_X4_add 33 rfl) hx0 ?_
    refine wr_iconst (1 : Int32) (wg_da dt_X4_add 34 rfl) (by decide) ?_
    refine wr_iadd (wg_da dt_X4_add 35 rfl) ?_
    refine wr_putI wfp_X4_34 (wg_da dt_X4_add 36 rfl) hx0 h (fun s5 h => ?_)
    exact wr_vret (wg_da dt_X4_add 37 rfl) h
  · exact wr_vret (wg_da dt_X4_add 6 rfl) h
theorem m_X4_add (l : Launch) (E : wg_E) (x0 : Nat) (x1 : Int32) (x2 : Int32) (x3 : Int32) (x4 : Int32) (hx0 : wg_t Sc x0 = 6) (σ : wg_M) (q : Int32 × wg_M) (h : f_X4_add x0 x1 x2 x3 x4 σ = some q) : wg_MG l E Sc yX4_add cX4_add 5 none rm_X4_add [.ref x0, .int x1, .int x2, .int x3, .int x4] σ none q.2 :=
  wg_met [.ref x0, .int x1, .int x2, .int x3, .int x4] (plainFor_of_name (by decide)) (Nat.le_of_ble_eq_true rfl) (g_X4_add_e l E x0 x1 x2 x3 x4 σ q hx0 h)
abbrev rm_X1_note : Room := { frames := 1, cells := 0, slots := 0, locals := 24 }
def tb_X1_note : List (Nat × Instr × Nat) := [(0, .aload_n 0, 1), (1, .getfield 47, 3), (4, .ifCond .eq 4, 3), (7, .return_, 1), (8, .aload_n 0, 1), (9, .getfield 18, 3), (12, .getfield 51, 3), (15, .astore 4, 2), (17, .aload 4, 2), (19, .aload_n 0, 1), (20, .getfield 27, 3), (23, .getfield 55, 3), (26, .putfield 59, 3), (29, .aload 4, 2), (31, .aload_n 0, 1), (32, .getfield 27, 3), (35, .getfield 64, 3), (38, .iload_n 1, 1), (39, .iload_n 2, 1), (40, .iload_n 3, 1), (41, .invokevirtual 67, 3), (44, .aload_n 0, 1), (45, .getfield 27, 3), (48, .aload 4, 2), (50, .getfield 59, 3), (53, .putfield 55, 3), (56, .return_, 1)]
theorem dt_X1_note : wg_dc cX1_note tb_X1_note := by unfold wg_dc; decide +kernel
def f_X1_note  (x0 : Nat) (x1 : Int32) (x2 : Int32) (x3 : Int32) (σ : wg_M) : Option (Int32 × wg_M) := if (σ x0 6) = 0 then (wg_st σ (wg_r Sc (wg_r Sc x0 0) 1) 4 (σ (wg_r Sc x0 1) 9) (fun s1 => wg_bd (f_X4_add (wg_r Sc (wg_r Sc x0 0) 1) (s1 (wg_r Sc x0 1) 7) x1 x2 x3 s1) (fun _ s2 => wg_st s2 (wg_r Sc x0 1) 9 (s2 (wg_r Sc (wg_r Sc x0 0) 1) 4) (fun s3 => some (0, s3))))) else (some (0, σ))
set_option maxRecDepth 20000 in
theorem g_X1_note_e (l : Launch) (E : wg_E)  (x0 : Nat) (x1 : Int32) (x2 : Int32) (x3 : Int32) (σ : wg_M) (z : Int32 × wg_M) (hx0 : wg_t Sc x0 = 3) (h : f_X1_note  x0 x1 x2 x3 σ = some z) : wg_G l E Sc "WornWigs$Court" cX1_note 5 none rm_X1_note none z.2 0 [some (.ref x0), some (.int x1), some (.int x2), some (.int x3), none] [] σ := by
  refine wr_aload_n (wg_da dt_X1_note 0 rfl) rfl ?_
  refine wr_getI wf_X1_47 (wg_da dt_X1_note 1 rfl) hx0 ?_
  refine wr_if_eq 8 (wg_da dt_X1_note 2 rfl) (by decide) h (fun h => ?_) (fun h => ?_)
  · refine wr_aload_n (wg_da dt_X1_note 4 rfl) rfl ?_
    refine wr_getR wf_X1_18 (wg_da dt_X1_note 5 rfl) hx0 ?_
    refine wr_getR wf_X1_51 (wg_da dt_X1_note 6 rfl) (wg_ty Sc_ok 1 0 12 hx0 rfl (by decide)).2 ?_
    refine wr_astore (wg_da dt_X1_note 7 rfl) (by decide) ?_
    refine wr_aload (wg_da dt_X1_note 8 rfl) rfl ?_
    refine wr_aload_n (wg_da dt_X1_note 9 rfl) rfl ?_
    refine wr_getR wf_X1_27 (wg_da dt_X1_note 10 rfl) hx0 ?_
    refine wr_getI wf_X1_55 (wg_da dt_X1_note 11 rfl) (wg_ty Sc_ok 1 1 2 hx0 rfl (by decide)).2 ?_
    refine wr_putI wfp_X1_59 (wg_da dt_X1_note 12 rfl) (wg_ty Sc_ok 10 1 6 (wg_ty Sc_ok 1 0 12 hx0 rfl (by decide)).2 rfl (by decide)).2 h (fun s1 h => ?_)
    refine wr_aload (wg_da dt_X1_note 13 rfl) rfl ?_
    refine wr_aload_n (wg_da dt_X1_note 14 rfl) rfl ?_
    refine wr_getR wf_X1_27 (wg_da dt_X1_note 15 rfl) hx0 ?_
    refine wr_getI wf_X1_64 (wg_da dt_X1_note 16 rfl) (wg_ty Sc_ok 1 1 2 hx0 rfl (by decide)).2 ?_
    refine wr_iload_n (wg_da dt_X1_note 17 rfl) rfl ?_
    refine wr_iload_n (wg_da dt_X1_note 18 rfl) rfl ?_
    refine wr_iload_n (wg_da dt_X1_note 19 rfl) rfl ?_
    refine wr_callVv [.int (s1 (wg_r Sc x0 1) 7), .int x1, .int x2, .int x3] [] (wg_da dt_X1_note 20 rfl) ⟨wq_3_219, wq_3_220, wq_3_221⟩ (wg_ty Sc_ok 10 1 6 (wg_ty Sc_ok 1 0 12 hx0 rfl (by decide)).2 rfl (by decide)).2 ⟨rfl, by decide⟩ wy_X4_add (fun q hq => m_X4_add l E (wg_r Sc (wg_r Sc x0 0) 1) (s1 (wg_r Sc x0 1) 7) x1 x2 x3 (wg_ty Sc_ok 10 1 6 (wg_ty Sc_ok 1 0 12 hx0 rfl (by decide)).2 rfl (by decide)).2 _ q hq) rfl rfl (Nat.le_of_ble_eq_true rfl) ⟨rfl, rfl, by decide, by decide⟩ h (fun _ s2 h => ?_)
    refine wr_aload_n (wg_da dt_X1_note 21 rfl) rfl ?_
    refine wr_getR wf_X1_27 (wg_da dt_X1_note 22 rfl) hx0 ?_
    refine wr_aload (wg_da dt_X1_note 23 rfl) rfl ?_
    refine wr_getI wf_X1_59 (wg_da dt_X1_note 24 rfl) (wg_ty Sc_ok 10 1 6 (wg_ty Sc_ok 1 0 12 hx0 rfl (by decide)).2 rfl (by decide)).2 ?_
    refine wr_putI wfp_X1_55 (wg_da dt_X1_note 25 rfl) (wg_ty Sc_ok 1 1 2 hx0 rfl (by decide)).2 h (fun s3 h => ?_)
    exact wr_vret (wg_da dt_X1_note 26 rfl) h
  · exact wr_vret (wg_da dt_X1_note 3 rfl) h
theorem m_X1_note (l : Launch) (E : wg_E) (x0 : Nat) (x1 : Int32) (x2 : Int32) (x3 : Int32) (hx0 : wg_t Sc x0 = 3) (σ : wg_M) (q : Int32 × wg_M) (h : f_X1_note x0 x1 x2 x3 σ = some q) : wg_MG l E Sc yX1_note cX1_note 5 none rm_X1_note [.ref x0, .int x1, .int x2, .int x3] σ none q.2 :=
  wg_met [.ref x0, .int x1, .int x2, .int x3] (plainFor_of_name (by decide)) (Nat.le_of_ble_eq_true rfl) (g_X1_note_e l E x0 x1 x2 x3 σ q hx0 h)
abbrev rm_J7_fill_53178 : Room := { frames := 0, cells := 0, slots := 0, locals := 0 }
def tb_J7_fill_53178 : List (Nat × Instr × Nat) := [(0, .iconst 0, 1), (1, .istore_n 2, 1), (2, .aload_n 0, 1), (3, .arraylength, 1), (4, .istore_n 3, 1), (5, .iload_n 2, 1), (6, .iload_n 3, 1), (7, .if_icmp .ge 13, 3), (10, .aload_n 0, 1), (11, .iload_n 2, 1), (12, .iload_n 1, 1), (13, .iastore, 1), (14, .iinc 2 1, 3), (17, .goto (-12), 3), (20, .return_, 1)]
theorem dt_J7_fill_53178 : wg_dc cJ7_fill_53178 tb_J7_fill_53178 := by unfold wg_dc; decide +kernel
def f_J7_fill_53178_5  : Nat → Nat → Int32 → Int32 → Int32 → wg_M → Option (Int32 × wg_M)
  | 0, _, _, _, _, _ => none
  | n + 1, x0, x1, x2, x3, σ => if x3 ≤ x2 then (some (0, σ)) else (wg_sa (wg_n Sc x0) σ x0 x2 x1 (fun s1 => wg_let (x2 + (1 : Int32)) (fun v2 => f_J7_fill_53178_5  n x0 x1 v2 x3 s1)))
def f_J7_fill_53178  (x0 : Nat) (x1 : Int32) (σ : wg_M) : Option (Int32 × wg_M) := wg_let (Int32.ofNat (wg_n Sc x0)) (fun v1 => f_J7_fill_53178_5  wg_N x0 x1 (0 : Int32) v1 σ)
set_option maxRecDepth 20000 in
theorem g_J7_fill_53178_5 (l : Launch) (E : wg_E)  (z : Int32 × wg_M) : ∀ (n : Nat) (x0 : Nat) (x1 : Int32) (x2 : Int32) (x3 : Int32) (σ : wg_M) (hx0 : wg_t Sc x0 = 0) (h : f_J7_fill_53178_5  n x0 x1 x2 x3 σ = some z), wg_G l E Sc "java/util/Arrays" cJ7_fill_53178 4 none rm_J7_fill_53178 none z.2 5 [some (.ref x0), some (.int x1), some (.int x2), some (.int x3)] [] σ := by
  intro n
  induction n with
  | zero => intro x0 x1 x2 x3 σ hx0 h; cases h
  | succ n ih =>
    intro x0 x1 x2 x3 σ hx0 h
    refine wr_iload_n (wg_da dt_J7_fill_53178 5 rfl) rfl ?_
    refine wr_iload_n (wg_da dt_J7_fill_53178 6 rfl) rfl ?_
    refine wr_icmp_ge 20 (wg_da dt_J7_fill_53178 7 rfl) (by decide) h (fun h => ?_) (fun h => ?_)
    · exact wr_vret (wg_da dt_J7_fill_53178 14 rfl) h
    · refine wr_aload_n (wg_da dt_J7_fill_53178 8 rfl) rfl ?_
      refine wr_iload_n (wg_da dt_J7_fill_53178 9 rfl) rfl ?_
      refine wr_iload_n (wg_da dt_J7_fill_53178 10 rfl) rfl ?_
      refine wr_iast (wg_da dt_J7_fill_53178 11 rfl) hx0 h (fun s1 h => ?_)
      refine wr_iinc (c0 := (1 : Int32)) (wg_da dt_J7_fill_53178 12 rfl) rfl (by decide) (by decide) h (fun v2 h => ?_)
      refine wr_goto 5 (wg_da dt_J7_fill_53178 13 rfl) (by decide) ?_
      exact wr_wk [true, true, true, true] (ih x0 x1 v2 x3 s1 hx0 h)
set_option maxRecDepth 20000 in
theorem g_J7_fill_53178_e (l : Launch) (E : wg_E)  (x0 : Nat) (x1 : Int32) (σ : wg_M) (z : Int32 × wg_M) (hx0 : wg_t Sc x0 = 0) (h : f_J7_fill_53178  x0 x1 σ = some z) : wg_G l E Sc "java/util/Arrays" cJ7_fill_53178 4 none rm_J7_fill_53178 none z.2 0 [some (.ref x0), some (.int x1), none, none] [] σ := by
  refine wr_iconst (0 : Int32) (wg_da dt_J7_fill_53178 0 rfl) (by decide) ?_
  refine wr_istore_n (wg_da dt_J7_fill_53178 1 rfl) (by decide) ?_
  refine wr_aload_n (wg_da dt_J7_fill_53178 2 rfl) rfl ?_
  refine wr_alen (Int32.ofNat (wg_n Sc x0)) (wg_da dt_J7_fill_53178 3 rfl) hx0 rfl ?_
  refine wr_let h (fun v1 h => ?_)
  refine wr_istore_n (wg_da dt_J7_fill_53178 4 rfl) (by decide) ?_
  exact wr_wk [true, true, true, true] (g_J7_fill_53178_5 l E  _  wg_N x0 x1 (0 : Int32) v1 σ hx0 h)
theorem m_J7_fill_53178 (l : Launch) (E : wg_E) (x0 : Nat) (x1 : Int32) (hx0 : wg_t Sc x0 = 0) (σ : wg_M) (q : Int32 × wg_M) (h : f_J7_fill_53178 x0 x1 σ = some q) : wg_MG l E Sc yJ7_fill_53178 cJ7_fill_53178 4 none rm_J7_fill_53178 [.ref x0, .int x1] σ none q.2 :=
  wg_met [.ref x0, .int x1] (by decide +kernel) (Nat.le_of_ble_eq_true rfl) (g_J7_fill_53178_e l E x0 x1 σ q hx0 h)
abbrev rm_X1_askNobody : Room := { frames := 1, cells := 0, slots := 0, locals := 23 }
def tb_X1_askNobody : List (Nat × Instr × Nat) := [(0, .aload_n 0, 1), (1, .getfield 42, 3), (4, .getfield 71, 3), (7, .iconst 0, 1), (8, .invokestatic 77, 3), (11, .aload_n 0, 1), (12, .getfield 42, 3), (15, .getfield 71, 3), (18, .bipush 9, 2), (20, .aload_n 0, 1), (21, .getfield 27, 3), (24, .getfield 64, 3), (27, .iastore, 1), (28, .return_, 1)]
theorem dt_X1_askNobody : wg_dc cX1_askNobody tb_X1_askNobody := by unfold wg_dc; decide +kernel
def f_X1_askNobody  (x0 : Nat) (σ : wg_M) : Option (Int32 × wg_M) := wg_bd (f_J7_fill_53178 (wg_r Sc (wg_r Sc x0 4) 7) (0 : Int32) σ) (fun _ s1 => wg_sa (wg_n Sc (wg_r Sc (wg_r Sc x0 4) 7)) s1 (wg_r Sc (wg_r Sc x0 4) 7) (9 : Int32) (s1 (wg_r Sc x0 1) 7) (fun s2 => some (0, s2)))
set_option maxRecDepth 20000 in
theorem g_X1_askNobody_e (l : Launch) (E : wg_E)  (x0 : Nat) (σ : wg_M) (z : Int32 × wg_M) (hx0 : wg_t Sc x0 = 3) (h : f_X1_askNobody  x0 σ = some z) : wg_G l E Sc "WornWigs$Court" cX1_askNobody 1 none rm_X1_askNobody none z.2 0 [some (.ref x0)] [] σ := by
  refine wr_aload_n (wg_da dt_X1_askNobody 0 rfl) rfl ?_
  refine wr_getR wf_X1_42 (wg_da dt_X1_askNobody 1 rfl) hx0 ?_
  refine wr_getR wf_X1_71 (wg_da dt_X1_askNobody 2 rfl) (wg_ty Sc_ok 1 4 5 hx0 rfl (by decide)).2 ?_
  refine wr_iconst (0 : Int32) (wg_da dt_X1_askNobody 3 rfl) (by decide) ?_
  refine wr_callSv [.ref (wg_r Sc (wg_r Sc x0 4) 7), .int (0 : Int32)] [] (wg_da dt_X1_askNobody 4 rfl) ⟨wq_3_173, wq_3_174⟩ wy_J7_fill_53178 (fun q hq => m_J7_fill_53178 l E (wg_r Sc (wg_r Sc x0 4) 7) (0 : Int32) (wg_ty Sc_ok 3 7 0 (wg_ty Sc_ok 1 4 5 hx0 rfl (by decide)).2 rfl (by decide)).2 _ q hq) rfl rfl (Nat.le_of_ble_eq_true rfl) ⟨rfl, rfl, by decide, by decide⟩ h (fun _ s1 h => ?_)
  refine wr_aload_n (wg_da dt_X1_askNobody 5 rfl) rfl ?_
  refine wr_getR wf_X1_42 (wg_da dt_X1_askNobody 6 rfl) hx0 ?_
  refine wr_getR wf_X1_71 (wg_da dt_X1_askNobody 7 rfl) (wg_ty Sc_ok 1 4 5 hx0 rfl (by decide)).2 ?_
  refine wr_bipush (9 : Int32) (wg_da dt_X1_askNobody 8 rfl) (by decide) ?_
  refine wr_aload_n (wg_da dt_X1_askNobody 9 rfl) rfl ?_
  refine wr_getR wf_X1_27 (wg_da dt_X1_askNobody 10 rfl) hx0 ?_
  refine wr_getI wf_X1_64 (wg_da dt_X1_askNobody 11 rfl) (wg_ty Sc_ok 1 1 2 hx0 rfl (by decide)).2 ?_
  refine wr_iast (wg_da dt_X1_askNobody 12 rfl) (wg_ty Sc_ok 3 7 0 (wg_ty Sc_ok 1 4 5 hx0 rfl (by decide)).2 rfl (by decide)).2 h (fun s2 h => ?_)
  exact wr_vret (wg_da dt_X1_askNobody 13 rfl) h
theorem m_X1_askNobody (l : Launch) (E : wg_E) (x0 : Nat) (hx0 : wg_t Sc x0 = 3) (σ : wg_M) (q : Int32 × wg_M) (h : f_X1_askNobody x0 σ = some q) : wg_MG l E Sc yX1_askNobody cX1_askNobody 1 none rm_X1_askNobody [.ref x0] σ none q.2 :=
  wg_met [.ref x0] (plainFor_of_name (by decide)) (Nat.le_of_ble_eq_true rfl) (g_X1_askNobody_e l E x0 σ q hx0 h)
abbrev rm_X1_askJudge : Room := { frames := 0, cells := 0, slots := 0, locals := 0 }
def tb_X1_askJudge : List (Nat × Instr × Nat) := [(0, .aload_n 0, 1), (1, .getfield 42, 3), (4, .getfield 71, 3), (7, .iconst 0, 1), (8, .aload_n 0, 1), (9, .getfield 37, 3), (12, .getfield 83, 3), (15, .iload_n 1, 1), (16, .iaload, 1), (17, .iastore, 1), (18, .aload_n 0, 1), (19, .getfield 42, 3), (22, .getfield 71, 3), (25, .iconst 1, 1), (26, .aload_n 0, 1), (27, .getfield 37, 3), (30, .getfield 88, 3), (33, .iload_n 1, 1), (34, .iaload, 1), (35, .iastore, 1), (36, .aload_n 0, 1), (37, .getfield 42, 3), (40, .getfield 71, 3), (43, .bipush 8, 2), (45, .aload_n 0, 1), (46, .getfield 37, 3), (49, .getfield 91, 3), (52, .iload_n 1, 1), (53, .iaload, 1), (54, .iastore, 1), (55, .return_, 1)]
theorem dt_X1_askJudge : wg_dc cX1_askJudge tb_X1_askJudge := by unfold wg_dc; decide +kernel
def f_X1_askJudge  (x0 : Nat) (x1 : Int32) (σ : wg_M) : Option (Int32 × wg_M) := wg_ga (wg_n Sc (wg_r Sc (wg_r Sc x0 3) 0)) (σ (wg_r Sc (wg_r Sc x0 3) 0)) x1 (fun v1 => wg_sa (wg_n Sc (wg_r Sc (wg_r Sc x0 4) 7)) σ (wg_r Sc (wg_r Sc x0 4) 7) (0 : Int32) v1 (fun s2 => wg_ga (wg_n Sc (wg_r Sc (wg_r Sc x0 3) 1)) (s2 (wg_r Sc (wg_r Sc x0 3) 1)) x1 (fun v3 => wg_sa (wg_n Sc (wg_r Sc (wg_r Sc x0 4) 7)) s2 (wg_r Sc (wg_r Sc x0 4) 7) (1 : Int32) v3 (fun s4 => wg_ga (wg_n Sc (wg_r Sc (wg_r Sc x0 3) 4)) (s4 (wg_r Sc (wg_r Sc x0 3) 4)) x1 (fun v5 => wg_sa (wg_n Sc (wg_r Sc (wg_r Sc x0 4) 7)) s4 (wg_r Sc (wg_r Sc x0 4) 7) (8 : Int32) v5 (fun s6 => some (0, s6)))))))
set_option maxRecDepth 20000 in
theorem g_X1_askJudge_e (l : Launch) (E : wg_E)  (x0 : Nat) (x1 : Int32) (σ : wg_M) (z : Int32 × wg_M) (hx0 : wg_t Sc x0 = 3) (h : f_X1_askJudge  x0 x1 σ = some z) : wg_G l E Sc "WornWigs$Court" cX1_askJudge 2 none rm_X1_askJudge none z.2 0 [some (.ref x0), some (.int x1)] [] σ := by
  refine wr_aload_n (wg_da dt_X1_askJudge 0 rfl) rfl ?_
  refine wr_getR wf_X1_42 (wg_da dt_X1_askJudge 1 rfl) hx0 ?_
  refine wr_getR wf_X1_71 (wg_da dt_X1_askJudge 2 rfl) (wg_ty Sc_ok 1 4 5 hx0 rfl (by decide)).2 ?_
  refine wr_iconst (0 : Int32) (wg_da dt_X1_askJudge 3 rfl) (by decide) ?_
  refine wr_aload_n (wg_da dt_X1_askJudge 4 rfl) rfl ?_
  refine wr_getR wf_X1_37 (wg_da dt_X1_askJudge 5 rfl) hx0 ?_
  refine wr_getR wf_X1_83 (wg_da dt_X1_askJudge 6 rfl) (wg_ty Sc_ok 1 3 4 hx0 rfl (by decide)).2 ?_
  refine wr_iload_n (wg_da dt_X1_askJudge 7 rfl) rfl ?_
  refine wr_iald (wg_da dt_X1_askJudge 8 rfl) (wg_ty Sc_ok 2 0 0 (wg_ty Sc_ok 1 3 4 hx0 rfl (by decide)).2 rfl (by decide)).2 h (fun v1 h => ?_)
  refine wr_iast (wg_da dt_X1_askJudge 9 rfl) (wg_ty Sc_ok 3 7 0 (wg_ty Sc_ok 1 4 5 hx0 rfl (by decide)).2 rfl (by decide)).2 h (fun s2 h => ?_)
  refine wr_aload_n (wg_da dt_X1_askJudge 10 rfl) rfl ?_
  refine wr_getR wf_X1_42 (wg_da dt_X1_askJudge 11 rfl) hx0 ?_
  refine wr_getR wf_X1_71 (wg_da dt_X1_askJudge 12 rfl) (wg_ty Sc_ok 1 4 5 hx0 rfl (by decide)).2 ?_
  refine wr_iconst (1 : Int32) (wg_da dt_X1_askJudge 13 rfl) (by decide) ?_
  refine wr_aload_n (wg_da dt_X1_askJudge 14 rfl) rfl ?_
  refine wr_getR wf_X1_37 (wg_da dt_X1_askJudge 15 rfl) hx0 ?_
  refine wr_getR wf_X1_88 (wg_da dt_X1_askJudge 16 rfl) (wg_ty Sc_ok 1 3 4 hx0 rfl (by decide)).2 ?_
  refine wr_iload_n (wg_da dt_X1_askJudge 17 rfl) rfl ?_
  refine wr_iald (wg_da dt_X1_askJudge 18 rfl) (wg_ty Sc_ok 2 1 0 (wg_ty Sc_ok 1 3 4 hx0 rfl (by decide)).2 rfl (by decide)).2 h (fun v3 h => ?_)
  refine wr_iast (wg_da dt_X1_askJudge 19 rfl) (wg_ty Sc_ok 3 7 0 (wg_ty Sc_ok 1 4 5 hx0 rfl (by decide)).2 rfl (by decide)).2 h (fun s4 h => ?_)
  refine wr_aload_n (wg_da dt_X1_askJudge 20 rfl) rfl ?_
  refine wr_getR wf_X1_42 (wg_da dt_X1_askJudge 21 rfl) hx0 ?_
  refine wr_getR wf_X1_71 (wg_da dt_X1_askJudge 22 rfl) (wg_ty Sc_ok 1 4 5 hx0 rfl (by decide)).2 ?_
  refine wr_bipush (8 : Int32) (wg_da dt_X1_askJudge 23 rfl) (by decide) ?_
  refine wr_aload_n (wg_da dt_X1_askJudge 24 rfl) rfl ?_
  refine wr_getR wf_X1_37 (wg_da dt_X1_askJudge 25 rfl) hx0 ?_
  refine wr_getR wf_X1_91 (wg_da dt_X1_askJudge 26 rfl) (wg_ty Sc_ok 1 3 4 hx0 rfl (by decide)).2 ?_
  refine wr_iload_n (wg_da dt_X1_askJudge 27 rfl) rfl ?_
  refine wr_iald (wg_da dt_X1_askJudge 28 rfl) (wg_ty Sc_ok 2 4 0 (wg_ty Sc_ok 1 3 4 hx0 rfl (by decide)).2 rfl (by decide)).2 h (fun v5 h => ?_)
  refine wr_iast (wg_da dt_X1_askJudge 29 rfl) (wg_ty Sc_ok 3 7 0 (wg_ty Sc_ok 1 4 5 hx0 rfl (by decide)).2 rfl (by decide)).2 h (fun s6 h => ?_)
  exact wr_vret (wg_da dt_X1_askJudge 30 rfl) h
theorem m_X1_askJudge (l : Launch) (E : wg_E) (x0 : Nat) (x1 : Int32) (hx0 : wg_t Sc x0 = 3) (σ : wg_M) (q : Int32 × wg_M) (h : f_X1_askJudge x0 x1 σ = some q) : wg_MG l E Sc yX1_askJudge cX1_askJudge 2 none rm_X1_askJudge [.ref x0, .int x1] σ none q.2 :=
  wg_met [.ref x0, .int x1] (plainFor_of_name (by decide)) (Nat.le_of_ble_eq_true rfl) (g_X1_askJudge_e l E x0 x1 σ q hx0 h)
abbrev rm_X1_askWig : Room := { frames := 0, cells := 0, slots := 0, locals := 0 }
def tb_X1_askWig : List (Nat × Instr × Nat) := [(0, .aload_n 0, 1), (1, .getfield 42, 3), (4, .getfield 71, 3), (7, .iconst 2, 1), (8, .aload_n 0, 1), (9, .getfield 32, 3), (12, .getfield 94, 3), (15, .iload_n 1, 1), (16, .iaload, 1), (17, .iastore, 1), (18, .aload_n 0, 1), (19, .getfield 42, 3), (22, .getfield 71, 3), (25, .iconst 3, 1), (26, .aload_n 0, 1), (27, .getfield 32, 3), (30, .getfield 99, 3), (33, .iload_n 1, 1), (34, .iaload, 1), (35, .iastore, 1), (36, .aload_n 0, 1), (37, .getfield 42, 3), (40, .getfield 71, 3), (43, .iconst 4, 1), (44, .aload_n 0, 1), (45, .getfield 32, 3), (48, .getfield 102, 3), (51, .iload_n 1, 1), (52, .iaload, 1), (53, .iastore, 1), (54, .aload_n 0, 1), (55, .getfield 42, 3), (58, .getfield 71, 3), (61, .iconst 5, 1), (62, .aload_n 0, 1), (63, .getfield 32, 3), (66, .getfield 105, 3), (69, .iload_n 1, 1), (70, .iaload, 1), (71, .iastore, 1), (72, .return_, 1)]
theorem dt_X1_askWig : wg_dc cX1_askWig tb_X1_askWig := by unfold wg_dc; decide +kernel
def f_X1_askWig  (x0 : Nat) (x1 : Int32) (σ : wg_M) : Option (Int32 × wg_M) := wg_ga (wg_n Sc (wg_r Sc (wg_r Sc x0 2) 0)) (σ (wg_r Sc (wg_r Sc x0 2) 0)) x1 (fun v1 => wg_sa (wg_n Sc (wg_r Sc (wg_r Sc x0 4) 7)) σ (wg_r Sc (wg_r Sc x0 4) 7) (2 : Int32) v1 (fun s2 => wg_ga (wg_n Sc (wg_r Sc (wg_r Sc x0 2) 1)) (s2 (wg_r Sc (wg_r Sc x0 2) 1)) x1 (fun v3 => wg_sa (wg_n Sc (wg_r Sc (wg_r Sc x0 4) 7)) s2 (wg_r Sc (wg_r Sc x0 4) 7) (3 : Int32) v3 (fun s4 => wg_ga (wg_n Sc (wg_r Sc (wg_r Sc x0 2) 2)) (s4 (wg_r Sc (wg_r Sc x0 2) 2)) x1 (fun v5 => wg_sa (wg_n Sc (wg_r Sc (wg_r Sc x0 4) 7)) s4 (wg_r Sc (wg_r Sc x0 4) 7) (4 : Int32) v5 (fun s6 => wg_ga (wg_n Sc (wg_r Sc (wg_r Sc x0 2) 3)) (s6 (wg_r Sc (wg_r Sc x0 2) 3)) x1 (fun v7 => wg_sa (wg_n Sc (wg_r Sc (wg_r Sc x0 4) 7)) s6 (wg_r Sc (wg_r Sc x0 4) 7) (5 : Int32) v7 (fun s8 => some (0, s8)))))))))
set_option maxRecDepth 20000 in
theorem g_X1_askWig_e (l : Launch) (E : wg_E)  (x0 : Nat) (x1 : Int32) (σ : wg_M) (z : Int32 × wg_M) (hx0 : wg_t Sc x0 = 3) (h : f_X1_askWig  x0 x1 σ = some z) : wg_G l E Sc "WornWigs$Court" cX1_askWig 2 none rm_X1_askWig none z.2 0 [some (.ref x0), some (.int x1)] [] σ := by
  refine wr_aload_n (wg_da dt_X1_askWig 0 rfl) rfl ?_
  refine wr_getR wf_X1_42 (wg_da dt_X1_askWig 1 rfl) hx0 ?_
  refine wr_getR wf_X1_71 (wg_da dt_X1_askWig 2 rfl) (wg_ty Sc_ok 1 4 5 hx0 rfl (by decide)).2 ?_
  refine wr_iconst (2 : Int32) (wg_da dt_X1_askWig 3 rfl) (by decide) ?_
  refine wr_aload_n (wg_da dt_X1_askWig 4 rfl) rfl ?_
  refine wr_getR wf_X1_32 (wg_da dt_X1_askWig 5 rfl) hx0 ?_
  refine wr_getR wf_X1_94 (wg_da dt_X1_askWig 6 rfl) (wg_ty Sc_ok 1 2 11 hx0 rfl (by decide)).2 ?_
  refine wr_iload_n (wg_da dt_X1_askWig 7 rfl) rfl ?_
  refine wr_iald (wg_da dt_X1_askWig 8 rfl) (wg_ty Sc_ok 9 0 0 (wg_ty Sc_ok 1 2 11 hx0 rfl (by decide)).2 rfl (by decide)).2 h (fun v1 h => ?_)
  refine wr_iast (wg_da dt_X1_askWig 9 rfl) (wg_ty Sc_ok 3 7 0 (wg_ty Sc_ok 1 4 5 hx0 rfl (by decide)).2 rfl (by decide)).2 h (fun s2 h => ?_)
  refine wr_aload_n (wg_da dt_X1_askWig 10 rfl) rfl ?_
  refine wr_getR wf_X1_42 (wg_da dt_X1_askWig 11 rfl) hx0 ?_
  refine wr_getR wf_X1_71 (wg_da dt_X1_askWig 12 rfl) (wg_ty Sc_ok 1 4 5 hx0 rfl (by decide)).2 ?_
  refine wr_iconst (3 : Int32) (wg_da dt_X1_askWig 13 rfl) (by decide) ?_
  refine wr_aload_n (wg_da dt_X1_askWig 14 rfl) rfl ?_
  refine wr_getR wf_X1_32 (wg_da dt_X1_askWig 15 rfl) hx0 ?_
  refine wr_getR wf_X1_99 (wg_da dt_X1_askWig 16 rfl) (wg_ty Sc_ok 1 2 11 hx0 rfl (by decide)).2 ?_
  refine wr_iload_n (wg_da dt_X1_askWig 17 rfl) rfl ?_
  refine wr_iald (wg_da dt_X1_askWig 18 rfl) (wg_ty Sc_ok 9 1 0 (wg_ty Sc_ok 1 2 11 hx0 rfl (by decide)).2 rfl (by decide)).2 h (fun v3 h => ?_)
  refine wr_iast (wg_da dt_X1_askWig 19 rfl) (wg_ty Sc_ok 3 7 0 (wg_ty Sc_ok 1 4 5 hx0 rfl (by decide)).2 rfl (by decide)).2 h (fun s4 h => ?_)
  refine wr_aload_n (wg_da dt_X1_askWig 20 rfl) rfl ?_
  refine wr_getR wf_X1_42 (wg_da dt_X1_askWig 21 rfl) hx0 ?_
  refine wr_getR wf_X1_71 (wg_da dt_X1_askWig 22 rfl) (wg_ty Sc_ok 1 4 5 hx0 rfl (by decide)).2 ?_
  refine wr_iconst (4 : Int32) (wg_da dt_X1_askWig 23 rfl) (by decide) ?_
  refine wr_aload_n (wg_da dt_X1_askWig 24 rfl) rfl ?_
  refine wr_getR wf_X1_32 (wg_da dt_X1_askWig 25 rfl) hx0 ?_
  refine wr_getR wf_X1_102 (wg_da dt_X1_askWig 26 rfl) (wg_ty Sc_ok 1 2 11 hx0 rfl (by decide)).2 ?_
  refine wr_iload_n (wg_da dt_X1_askWig 27 rfl) rfl ?_
  refine wr_iald (wg_da dt_X1_askWig 28 rfl) (wg_ty Sc_ok 9 2 0 (wg_ty Sc_ok 1 2 11 hx0 rfl (by decide)).2 rfl (by decide)).2 h (fun v5 h => ?_)
  refine wr_iast (wg_da dt_X1_askWig 29 rfl) (wg_ty Sc_ok 3 7 0 (wg_ty Sc_ok 1 4 5 hx0 rfl (by decide)).2 rfl (by decide)).2 h (fun s6 h => ?_)
  refine wr_aload_n (wg_da dt_X1_askWig 30 rfl) rfl ?_
  refine wr_getR wf_X1_42 (wg_da dt_X1_askWig 31 rfl) hx0 ?_
  refine wr_getR wf_X1_71 (wg_da dt_X1_askWig 32 rfl) (wg_ty Sc_ok 1 4 5 hx0 rfl (by decide)).2 ?_
  refine wr_iconst (5 : Int32) (wg_da dt_X1_askWig 33 rfl) (by decide) ?_
  refine wr_aload_n (wg_da dt_X1_askWig 34 rfl) rfl ?_
  refine wr_getR wf_X1_32 (wg_da dt_X1_askWig 35 rfl) hx0 ?_
  refine wr_getR wf_X1_105 (wg_da dt_X1_askWig 36 rfl) (wg_ty Sc_ok 1 2 11 hx0 rfl (by decide)).2 ?_
  refine wr_iload_n (wg_da dt_X1_askWig 37 rfl) rfl ?_
  refine wr_iald (wg_da dt_X1_askWig 38 rfl) (wg_ty Sc_ok 9 3 0 (wg_ty Sc_ok 1 2 11 hx0 rfl (by decide)).2 rfl (by decide)).2 h (fun v7 h => ?_)
  refine wr_iast (wg_da dt_X1_askWig 39 rfl) (wg_ty Sc_ok 3 7 0 (wg_ty Sc_ok 1 4 5 hx0 rfl (by decide)).2 rfl (by decide)).2 h (fun s8 h => ?_)
  exact wr_vret (wg_da dt_X1_askWig 40 rfl) h
theorem m_X1_askWig (l : Launch) (E : wg_E) (x0 : Nat) (x1 : Int32) (hx0 : wg_t Sc x0 = 3) (σ : wg_M) (q : Int32 × wg_M) (h : f_X1_askWig x0 x1 σ = some q) : wg_MG l E Sc yX1_askWig cX1_askWig 2 none rm_X1_askWig [.ref x0, .int x1] σ none q.2 :=
  wg_met [.ref x0, .int x1] (plainFor_of_name (by decide)) (Nat.le_of_ble_eq_true rfl) (g_X1_askWig_e l E x0 x1 σ q hx0 h)
abbrev rm_X3_joined : Room := { frames := 0, cells := 0, slots := 0, locals := 0 }
def tb_X3_joined : List (Nat × Instr × Nat) := [(0, .iload_n 0, 1), (1, .lookupswitch 116 #[(42, 75), (43, 67), (45, 71), (60, 79), (61, 90), (62, 101), (271, 112)], 67), (68, .iload_n 1, 1), (69, .iload_n 2, 1), (70, .iadd, 1), (71, .ireturn, 1), (72, .iload_n 1, 1), (73, .iload_n 2, 1), (74, .isub, 1), (75, .ireturn, 1), (76, .iload_n 1, 1), (77, .iload_n 2, 1), (78, .imul, 1), (79, .ireturn, 1), (80, .iload_n 1, 1), (81, .iload_n 2, 1), (82, .if_icmp .ge 7, 3), (85, .iconst 1, 1), (86, .goto 4, 3), (89, .iconst 0, 1), (90, .ireturn, 1), (91, .iload_n 1, 1), (92, .iload_n 2, 1), (93, .if_icmp .ne 7, 3), (96, .iconst 1, 1), (97, .goto 4, 3), (100, .iconst 0, 1), (101, .ireturn, 1), (102, .iload_n 1, 1), (103, .iload_n 2, 1), (104, .if_icmp .le 7, 3), (107, .iconst 1, 1), (108, .goto 4, 3), (111, .iconst 0, 1), (112, .ireturn, 1), (113, .iload_n 1, 1), (114, .iload_n 2, 1), (115, .iand, 1), (116, .ireturn, 1), (117, .iload_n 1, 1), (118, .iload_n 2, 1), (119, .ior, 1), (120, .ireturn, 1)]
theorem dt_X3_joined : wg_dc cX3_joined tb_X3_joined := by unfold wg_dc; decide +kernel
def f_X3_joined  (x0 : Int32) (x1 : Int32) (x2 : Int32) (σ : wg_M) : Option (Int32 × wg_M) := wg_lz x0 [42, 43, 45, 60, 61, 62, 271] [some (x1 * x2, σ), some (x1 + x2, σ), some (x1 - x2, σ), if x2 ≤ x1 then (some ((0 : Int32), σ)) else (some ((1 : Int32), σ)), if x1 = x2 then (some ((1 : Int32), σ)) else (some ((0 : Int32), σ)), if x1 ≤ x2 then (some ((0 : Int32), σ)) else (some ((1 : Int32), σ)), some (x1 &&& x2, σ)] (some (x1 ||| x2, σ))
set_option maxRecDepth 20000 in
theorem g_X3_joined_e (l : Launch) (E : wg_E)  (x0 : Int32) (x1 : Int32) (x2 : Int32) (σ : wg_M) (z : Int32 × wg_M)  (h : f_X3_joined  x0 x1 x2 σ = some z) : wg_G l E Sc "WornWigs$Law" cX3_joined 3 (some .int) rm_X3_joined (some z.1) z.2 0 [some (.int x0), some (.int x1), some (.int x2)] [] σ := by
  refine wr_iload_n (wg_da dt_X3_joined 0 rfl) rfl ?_
  refine wr_lsw [42, 43, 45, 60, 61, 62, 271] [76, 68, 72, 80, 91, 102, 113] 117 (wg_da dt_X3_joined 1 rfl) (by decide) (by decide) (by decide) rfl (by decide) h (wg_all_c (fun h => ?_) (wg_all_c (fun h => ?_) (wg_all_c (fun h => ?_) (wg_all_c (fun h => ?_) (wg_all_c (fun h => ?_) (wg_all_c (fun h => ?_) (wg_all_c (fun h => ?_) (wg_all_n)))))))) (fun h => ?_)
  · refine wr_iload_n (wg_da dt_X3_joined 10 rfl) rfl ?_
    refine wr_iload_n (wg_da dt_X3_joined 11 rfl) rfl ?_
    refine wr_imul (wg_da dt_X3_joined 12 rfl) ?_
    exact wr_iret (wg_da dt_X3_joined 13 rfl) h
  · refine wr_iload_n (wg_da dt_X3_joined 2 rfl) rfl ?_
    refine wr_iload_n (wg_da dt_X3_joined 3 rfl) rfl ?_
    refine wr_iadd (wg_da dt_X3_joined 4 rfl) ?_
    exact wr_iret (wg_da dt_X3_joined 5 rfl) h
  · refine wr_iload_n (wg_da dt_X3_joined 6 rfl) rfl ?_
    refine wr_iload_n (wg_da dt_X3_joined 7 rfl) rfl ?_
    refine wr_isub (wg_da dt_X3_joined 8 rfl) ?_
    exact wr_iret (wg_da dt_X3_joined 9 rfl) h
  · refine wr_iload_n (wg_da dt_X3_joined 14 rfl) rfl ?_
    refine wr_iload_n (wg_da dt_X3_joined 15 rfl) rfl ?_
    refine wr_icmp_ge 89 (wg_da dt_X3_joined 16 rfl) (by decide) h (fun h => ?_) (fun h => ?_)
    · refine wr_iconst (0 : Int32) (wg_da dt_X3_joined 19 rfl) (by decide) ?_
      exact wr_iret (wg_da dt_X3_joined 20 rfl) h
    · refine wr_iconst (1 : Int32) (wg_da dt_X3_joined 17 rfl) (by decide) ?_
      refine wr_goto 90 (wg_da dt_X3_joined 18 rfl) (by decide) ?_
      exact wr_iret (wg_da dt_X3_joined 20 rfl) h
  · refine wr_iload_n (wg_da dt_X3_joined 21 rfl) rfl ?_
    refine wr_iload_n (wg_da dt_X3_joined 22 rfl) rfl ?_
    refine wr_icmp_ne 100 (wg_da dt_X3_joined 23 rfl) (by decide) h (fun h => ?_) (fun h => ?_)
    · refine wr_iconst (1 : Int32) (wg_da dt_X3_joined 24 rfl) (by decide) ?_
      refine wr_goto 101 (wg_da dt_X3_joined 25 rfl) (by decide) ?_
      exact wr_iret (wg_da dt_X3_joined 27 rfl) h
    · refine wr_iconst (0 : Int32) (wg_da dt_X3_joined 26 rfl) (by decide) ?_
      exact wr_iret (wg_da dt_X3_joined 27 rfl) h
  · refine wr_iload_n (wg_da dt_X3_joined 28 rfl) rfl ?_
    refine wr_iload_n (wg_da dt_X3_joined 29 rfl) rfl ?_
    refine wr_icmp_le 111 (wg_da dt_X3_joined 30 rfl) (by decide) h (fun h => ?_) (fun h => ?_)
    · refine wr_iconst (0 : Int32) (wg_da dt_X3_joined 33 rfl) (by decide) ?_
      exact wr_iret (wg_da dt_X3_joined 34 rfl) h
    · refine wr_iconst (1 : Int32) (wg_da dt_X3_joined 31 rfl) (by decide) ?_
      refine wr_goto 112 (wg_da dt_X3_joined 32 rfl) (by decide) ?_
      exact wr_iret (wg_da dt_X3_joined 34 rfl) h
  · refine wr_iload_n (wg_da dt_X3_joined 35 rfl) rfl ?_
    refine wr_iload_n (wg_da dt_X3_joined 36 rfl) rfl ?_
    refine wr_iand (wg_da dt_X3_joined 37 rfl) ?_
    exact wr_iret (wg_da dt_X3_joined 38 rfl) h
  · refine wr_iload_n (wg_da dt_X3_joined 39 rfl) rfl ?_
    refine wr_iload_n (wg_da dt_X3_joined 40 rfl) rfl ?_
    refine wr_ior (wg_da dt_X3_joined 41 rfl) ?_
    exact wr_iret (wg_da dt_X3_joined 42 rfl) h
theorem m_X3_joined (l : Launch) (E : wg_E) (x0 : Int32) (x1 : Int32) (x2 : Int32)  (σ : wg_M) (q : Int32 × wg_M) (h : f_X3_joined x0 x1 x2 σ = some q) : wg_MG l E Sc yX3_joined cX3_joined 3 (some .int) rm_X3_joined [.int x0, .int x1, .int x2] σ (some q.1) q.2 :=
  wg_met [.int x0, .int x1, .int x2] (plainFor_of_name (by decide)) (Nat.le_of_ble_eq_true rfl) (g_X3_joined_e l E x0 x1 x2 σ q  h)
abbrev rm_X3_run : Room := { frames := 1, cells := 0, slots := 0, locals := 22 }
def tb_X3_run : List (Nat × Instr × Nat) := [(0, .iconst 0, 1), (1, .istore_n 3, 1), (2, .iload_n 1, 1), (3, .istore 4, 2), (5, .iload 4, 2), (7, .iload_n 2, 1), (8, .if_icmp .ge 189, 3), (11, .aload_n 0, 1), (12, .getfield 9, 3), (15, .iload 4, 2), (17, .iaload, 1), (18, .istore 5, 2), (20, .iload 5, 2), (22, .iconst 2, 1), (23, .if_icmp .eq 9, 3), (26, .iload 5, 2), (28, .iconst 3, 1), (29, .if_icmp .ne 52, 3), (32, .iload_n 3, 1), (33, .aload_n 0, 1), (34, .getfield 30, 3), (37, .arraylength, 1), (38, .if_icmp .ge 153, 3), (41, .aload_n 0, 1), (42, .getfield 30, 3), (45, .iload_n 3, 1), (46, .iload 5, 2), (48, .iconst 2, 1), (49, .if_icmp .ne 13, 3), (52, .aload_n 0, 1), (53, .getfield 15, 3), (56, .iload 4, 2), (58, .iaload, 1), (59, .goto 15, 3), (62, .aload_n 0, 1), (63, .getfield 27, 3), (66, .aload_n 0, 1), (67, .getfield 15, 3), (70, .iload 4, 2), (72, .iaload, 1), (73, .iaload, 1), (74, .iastore, 1), (75, .iinc 3 1, 3), (78, .goto 113, 3), (81, .iload 5, 2), (83, .sipush 272, 3), (86, .if_icmp .ne 28, 3), (89, .iload_n 3, 1), (90, .ifCond .le 101, 3), (93, .aload_n 0, 1), (94, .getfield 30, 3), (97, .iload_n 3, 1), (98, .iconst 1, 1), (99, .isub, 1), (100, .iconst 1, 1), (101, .aload_n 0, 1), (102, .getfield 30, 3), (105, .iload_n 3, 1), (106, .iconst 1, 1), (107, .isub, 1), (108, .iaload, 1), (109, .isub, 1), (110, .iastore, 1), (111, .goto 80, 3), (114, .iload 5, 2), (116, .bipush 47, 2), (118, .if_icmp .ne 38, 3), (121, .iload_n 3, 1), (122, .ifCond .le 69, 3), (125, .aload_n 0, 1), (126, .getfield 15, 3), (129, .iload 4, 2), (131, .iaload, 1), (132, .ifCond .eq 59, 3), (135, .aload_n 0, 1), (136, .getfield 30, 3), (139, .iload_n 3, 1), (140, .iconst 1, 1), (141, .isub, 1), (142, .dup2, 1), (143, .iaload, 1), (144, .aload_n 0, 1), (145, .getfield 15, 3), (148, .iload 4, 2), (150, .iaload, 1), (151, .idiv, 1), (152, .iastore, 1), (153, .goto 38, 3), (156, .iload_n 3, 1), (157, .iconst 1, 1), (158, .if_icmp .le 33, 3), (161, .iinc 3 (-1), 3), (164, .aload_n 0, 1), (165, .getfield 30, 3), (168, .iload_n 3, 1), (169, .iconst 1, 1), (170, .isub, 1), (171, .iload 5, 2), (173, .aload_n 0, 1), (174, .getfield 30, 3), (177, .iload_n 3, 1), (178, .iconst 1, 1), (179, .isub, 1), (180, .iaload, 1), (181, .aload_n 0, 1), (182, .getfield 30, 3), (185, .iload_n 3, 1), (186, .iaload, 1), (187, .invokestatic 48, 3), (190, .iastore, 1), (191, .iinc 4 1, 3), (194, .goto (-189), 3), (197, .aload_n 0, 1), (198, .getfield 30, 3), (201, .iconst 0, 1), (202, .iaload, 1), (203, .ireturn, 1)]
theorem dt_X3_run : wg_dc cX3_run tb_X3_run := by unfold wg_dc; decide +kernel
def f_X3_run_191 (k5 : Nat → Int32 → Int32 → Int32 → wg_M → Option (Int32 × wg_M)) (x0 : Nat) (x2 : Int32) (x3 : Int32) (x4 : Int32) (σ : wg_M) : Option (Int32 × wg_M) := wg_let (x4 + (1 : Int32)) (fun v1 => k5 x0 x2 x3 v1 σ)
def f_X3_run_74 (k5 : Nat → Int32 → Int32 → Int32 → wg_M → Option (Int32 × wg_M)) (x0 : Nat) (x2 : Int32) (x3 : Int32) (x4 : Int32) (t0 : Int32) (t1 : Int32) (t2 : Nat) (σ : wg_M) : Option (Int32 × wg_M) := wg_sa (wg_n Sc t2) σ t2 t1 t0 (fun s1 => wg_let (x3 + (1 : Int32)) (fun v2 => f_X3_run_191 k5 x0 x2 v2 x4 s1))
def f_X3_run_32 (k5 : Nat → Int32 → Int32 → Int32 → wg_M → Option (Int32 × wg_M)) (x0 : Nat) (x2 : Int32) (x3 : Int32) (x4 : Int32) (x5 : Int32) (σ : wg_M) : Option (Int32 × wg_M) := if (Int32.ofNat (wg_n Sc (wg_r Sc x0 8))) ≤ x3 then (f_X3_run_191 k5 x0 x2 x3 x4 σ) else (if x5 = (2 : Int32) then (wg_ga (wg_n Sc (wg_r Sc x0 1)) (σ (wg_r Sc x0 1)) x4 (fun v3 => f_X3_run_74 k5 x0 x2 x3 x4 v3 x3 (wg_r Sc x0 8) σ)) else (wg_ga (wg_n Sc (wg_r Sc x0 1)) (σ (wg_r Sc x0 1)) x4 (fun v1 => wg_ga (wg_n Sc (wg_r Sc x0 7)) (σ (wg_r Sc x0 7)) v1 (fun v2 => f_X3_run_74 k5 x0 x2 x3 x4 v2 x3 (wg_r Sc x0 8) σ))))
def f_X3_run_5  : Nat → Nat → Int32 → Int32 → Int32 → wg_M → Option (Int32 × wg_M)
  | 0, _, _, _, _, _ => none
  | n + 1, x0, x2, x3, x4, σ => if x2 ≤ x4 then (wg_ga (wg_n Sc (wg_r Sc x0 8)) (σ (wg_r Sc x0 8)) (0 : Int32) (fun v1 => some (v1, σ))) else (wg_ga (wg_n Sc (wg_r Sc x0 0)) (σ (wg_r Sc x0 0)) x4 (fun v2 => if v2 = (2 : Int32) then (f_X3_run_32 (f_X3_run_5  n) x0 x2 x3 x4 v2 σ) else (if v2 = (3 : Int32) then (f_X3_run_32 (f_X3_run_5  n) x0 x2 x3 x4 v2 σ) else (if v2 = (272 : Int32) then (if x3 ≤ 0 then (f_X3_run_191 (f_X3_run_5  n) x0 x2 x3 x4 σ) else (wg_ga (wg_n Sc (wg_r Sc x0 8)) (σ (wg_r Sc x0 8)) (x3 - (1 : Int32)) (fun v15 => wg_sa (wg_n Sc (wg_r Sc x0 8)) σ (wg_r Sc x0 8) (x3 - (1 : Int32)) ((1 : Int32) - v15) (fun s16 => f_X3_run_191 (f_X3_run_5  n) x0 x2 x3 x4 s16)))) else (if v2 = (47 : Int32) then (if x3 ≤ 0 then (f_X3_run_191 (f_X3_run_5  n) x0 x2 x3 x4 σ) else (wg_ga (wg_n Sc (wg_r Sc x0 1)) (σ (wg_r Sc x0 1)) x4 (fun v9 => if v9 = 0 then (f_X3_run_191 (f_X3_run_5  n) x0 x2 x3 x4 σ) else (wg_let (x3 - (1 : Int32)) (fun v10 => wg_ga (wg_n Sc (wg_r Sc x0 8)) (σ (wg_r Sc x0 8)) v10 (fun v11 => wg_ga (wg_n Sc (wg_r Sc x0 1)) (σ (wg_r Sc x0 1)) x4 (fun v12 => wg_dv v11 v12 (fun v13 => wg_sa (wg_n Sc (wg_r Sc x0 8)) σ (wg_r Sc x0 8) v10 v13 (fun s14 => f_X3_run_191 (f_X3_run_5  n) x0 x2 x3 x4 s14))))))))) else (if x3 ≤ (1 : Int32) then (f_X3_run_191 (f_X3_run_5  n) x0 x2 x3 x4 σ) else (wg_let (x3 + (-1 : Int32)) (fun v3 => wg_ga (wg_n Sc (wg_r Sc x0 8)) (σ (wg_r Sc x0 8)) (v3 - (1 : Int32)) (fun v4 => wg_ga (wg_n Sc (wg_r Sc x0 8)) (σ (wg_r Sc x0 8)) v3 (fun v5 => wg_bd (f_X3_joined v2 v4 v5 σ) (fun v6 s7 => wg_sa (wg_n Sc (wg_r Sc x0 8)) s7 (wg_r Sc x0 8) (v3 - (1 : Int32)) v6 (fun s8 => f_X3_run_191 (f_X3_run_5  n) x0 x2 v3 x4 s8))))))))))))
def f_X3_run  (x0 : Nat) (x1 : Int32) (x2 : Int32) (σ : wg_M) : Option (Int32 × wg_M) := f_X3_run_5  wg_N x0 x2 (0 : Int32) x1 σ
set_option maxRecDepth 20000 in
theorem g_X3_run_191 (l : Launch) (E : wg_E) (k5 : Nat → Int32 → Int32 → Int32 → wg_M → Option (Int32 × wg_M)) (x0 : Nat) (x2 : Int32) (x3 : Int32) (x4 : Int32) (σ : wg_M) (z : Int32 × wg_M) (hx0 : wg_t Sc x0 = 5) (hk5 : ∀ (x0 : Nat) (x2 : Int32) (x3 : Int32) (x4 : Int32) (σ : wg_M), wg_t Sc x0 = 5 → k5 x0 x2 x3 x4 σ = some z → wg_G l E Sc "WornWigs$Law" cX3_run 6 (some .int) rm_X3_run (some z.1) z.2 5 [some (.ref x0), none, some (.int x2), some (.int x3), some (.int x4), none] [] σ) (h : f_X3_run_191 k5 x0 x2 x3 x4 σ = some z) : wg_G l E Sc "WornWigs$Law" cX3_run 6 (some .int) rm_X3_run (some z.1) z.2 191 [some (.ref x0), none, some (.int x2), some (.int x3), some (.int x4), none] [] σ := by
  refine wr_iinc (c0 := (1 : Int32)) (wg_da dt_X3_run 110 rfl) rfl (by decide) (by decide) h (fun v1 h => ?_)
  refine wr_goto 5 (wg_da dt_X3_run 111 rfl) (by decide) ?_
  exact wr_wk [true, false, true, true, true, false] (hk5 x0 x2 x3 v1 σ hx0 h)
set_option maxRecDepth 20000 in
theorem g_X3_run_74 (l : Launch) (E : wg_E) (k5 : Nat → Int32 → Int32 → Int32 → wg_M → Option (Int32 × wg_M)) (x0 : Nat) (x2 : Int32) (x3 : Int32) (x4 : Int32) (t0 : Int32) (t1 : Int32) (t2 : Nat) (σ : wg_M) (z : Int32 × wg_M) (hx0 : wg_t Sc x0 = 5) (ht2 : wg_t Sc t2 = 0) (hk5 : ∀ (x0 : Nat) (x2 : Int32) (x3 : Int32) (x4 : Int32) (σ : wg_M), wg_t Sc x0 = 5 → k5 x0 x2 x3 x4 σ = some z → wg_G l E Sc "WornWigs$Law" cX3_run 6 (some .int) rm_X3_run (some z.1) z.2 5 [some (.ref x0), none, some (.int x2), some (.int x3), some (.int x4), none] [] σ) (h : f_X3_run_74 k5 x0 x2 x3 x4 t0 t1 t2 σ = some z) : wg_G l E Sc "WornWigs$Law" cX3_run 6 (some .int) rm_X3_run (some z.1) z.2 74 [some (.ref x0), none, some (.int x2), some (.int x3), some (.int x4), none] [.int t0, .int t1, .ref t2] σ := by
  refine wr_iast (wg_da dt_X3_run 41 rfl) ht2 h (fun s1 h => ?_)
  refine wr_iinc (c0 := (1 : Int32)) (wg_da dt_X3_run 42 rfl) rfl (by decide) (by decide) h (fun v2 h => ?_)
  refine wr_goto 191 (wg_da dt_X3_run 43 rfl) (by decide) ?_
  exact wr_wk [true, false, true, true, true, false] (g_X3_run_191 l E k5 x0 x2 v2 x4 s1 _ hx0 hk5 h)
set_option maxRecDepth 20000 in
theorem g_X3_run_32 (l : Launch) (E : wg_E) (k5 : Nat → Int32 → Int32 → Int32 → wg_M → Option (Int32 × wg_M)) (x0 : Nat) (x2 : Int32) (x3 : Int32) (x4 : Int32) (x5 : Int32) (σ : wg_M) (z : Int32 × wg_M) (hx0 : wg_t Sc x0 = 5) (hk5 : ∀ (x0 : Nat) (x2 : Int32) (x3 : Int32) (x4 : Int32) (σ : wg_M), wg_t Sc x0 = 5 → k5 x0 x2 x3 x4 σ = some z → wg_G l E Sc "WornWigs$Law" cX3_run 6 (some .int) rm_X3_run (some z.1) z.2 5 [some (.ref x0), none, some (.int x2), some (.int x3), some (.int x4), none] [] σ) (h : f_X3_run_32 k5 x0 x2 x3 x4 x5 σ = some z) : wg_G l E Sc "WornWigs$Law" cX3_run 6 (some .int) rm_X3_run (some z.1) z.2 32 [some (.ref x0), none, some (.int x2), some (.int x3), some (.int x4), some (.int x5)] [] σ := by
  refine wr_iload_n (wg_da dt_X3_run 18 rfl) rfl ?_
  refine wr_aload_n (wg_da dt_X3_run 19 rfl) rfl ?_
  refine wr_getR wf_X3_30 (wg_da dt_X3_run 20 rfl) hx0 ?_
  refine wr_alen (Int32.ofNat (wg_n Sc (wg_r Sc x0 8))) (wg_da dt_X3_run 21 rfl) (wg_ty Sc_ok 3 8 0 hx0 rfl (by decide)).2 rfl ?_
  refine wr_icmp_ge 191 (wg_da dt_X3_run 22 rfl) (by decide) h (fun h => ?_) (fun h => ?_)
  · exact wr_wk [true, false, true, true, true, false] (g_X3_run_191 l E k5 x0 x2 x3 x4 σ _ hx0 hk5 h)
  · refine wr_aload_n (wg_da dt_X3_run 23 rfl) rfl ?_
    refine wr_getR wf_X3_30 (wg_da dt_X3_run 24 rfl) hx0 ?_
    refine wr_iload_n (wg_da dt_X3_run 25 rfl) rfl ?_
    refine wr_iload (wg_da dt_X3_run 26 rfl) rfl ?_
    refine wr_iconst (2 : Int32) (wg_da dt_X3_run 27 rfl) (by decide) ?_
    refine wr_icmp_ne 62 (wg_da dt_X3_run 28 rfl) (by decide) h (fun h => ?_) (fun h => ?_)
    · refine wr_aload_n (wg_da dt_X3_run 29 rfl) rfl ?_
      refine wr_getR wf_X3_15 (wg_da dt_X3_run 30 rfl) hx0 ?_
      refine wr_iload (wg_da dt_X3_run 31 rfl) rfl ?_
      refine wr_iald (wg_da dt_X3_run 32 rfl) (wg_ty Sc_ok 3 1 0 hx0 rfl (by decide)).2 h (fun v3 h => ?_)
      refine wr_goto 74 (wg_da dt_X3_run 33 rfl) (by decide) ?_
      exact wr_wk [true, false, true, true, true, false] (g_X3_run_74 l E k5 x0 x2 x3 x4 v3 x3 (wg_r Sc x0 8) σ _ hx0 (wg_ty Sc_ok 3 8 0 hx0 rfl (by decide)).2 hk5 h)
    · refine wr_aload_n (wg_da dt_X3_run 34 rfl) rfl ?_
      refine wr_getR wf_X3_27 (wg_da dt_X3_run 35 rfl) hx0 ?_
      refine wr_aload_n (wg_da dt_X3_run 36 rfl) rfl ?_
      refine wr_getR wf_X3_15 (wg_da dt_X3_run 37 rfl) hx0 ?_
      refine wr_iload (wg_da dt_X3_run 38 rfl) rfl ?_
      refine wr_iald (wg_da dt_X3_run 39 rfl) (wg_ty Sc_ok 3 1 0 hx0 rfl (by decide)).2 h (fun v1 h => ?_)
      refine wr_iald (wg_da dt_X3_run 40 rfl) (wg_ty Sc_ok 3 7 0 hx0 rfl (by decide)).2 h (fun v2 h => ?_)
      exact wr_wk [true, false, true, true, true, false] (g_X3_run_74 l E k5 x0 x2 x3 x4 v2 x3 (wg_r Sc x0 8) σ _ hx0 (wg_ty Sc_ok 3 8 0 hx0 rfl (by decide)).2 hk5 h)
set_option maxRecDepth 20000 in
theorem g_X3_run_5 (l : Launch) (E : wg_E)  (z : Int32 × wg_M) : ∀ (n : Nat) (x0 : Nat) (x2 : Int32) (x3 : Int32) (x4 : Int32) (σ : wg_M) (hx0 : wg_t Sc x0 = 5) (h : f_X3_run_5  n x0 x2 x3 x4 σ = some z), wg_G l E Sc "WornWigs$Law" cX3_run 6 (some .int) rm_X3_run (some z.1) z.2 5 [some (.ref x0), none, some (.int x2), some (.int x3), some (.int x4), none] [] σ := by
  intro n
  induction n with
  | zero => intro x0 x2 x3 x4 σ hx0 h; cases h
  | succ n ih =>
    intro x0 x2 x3 x4 σ hx0 h
    refine wr_iload (wg_da dt_X3_run 4 rfl) rfl ?_
    refine wr_iload_n (wg_da dt_X3_run 5 rfl) rfl ?_
    refine wr_icmp_ge 197 (wg_da dt_X3_run 6 rfl) (by decide) h (fun h => ?_) (fun h => ?_)
    · refine wr_aload_n (wg_da dt_X3_run 112 rfl) rfl ?_
      refine wr_getR wf_X3_30 (wg_da dt_X3_run 113 rfl) hx0 ?_
      refine wr_iconst (0 : Int32) (wg_da dt_X3_run 114 rfl) (by decide) ?_
      refine wr_iald (wg_da dt_X3_run 115 rfl) (wg_ty Sc_ok 3 8 0 hx0 rfl (by decide)).2 h (fun v1 h => ?_)
      exact wr_iret (wg_da dt_X3_run 116 rfl) h
    · refine wr_aload_n (wg_da dt_X3_run 7 rfl) rfl ?_
      refine wr_getR wf_X3_9 (wg_da dt_X3_run 8 rfl) hx0 ?_
      refine wr_iload (wg_da dt_X3_run 9 rfl) rfl ?_
      refine wr_iald (wg_da dt_X3_run 10 rfl) (wg_ty Sc_ok 3 0 0 hx0 rfl (by decide)).2 h (fun v2 h => ?_)
      refine wr_istore (wg_da dt_X3_run 11 rfl) (by decide) ?_
      refine wr_iload (wg_da dt_X3_run 12 rfl) rfl ?_
      refine wr_iconst (2 : Int32) (wg_da dt_X3_run 13 rfl) (by decide) ?_
      refine wr_icmp_eq 32 (wg_da dt_X3_run 14 rfl) (by decide) h (fun h => ?_) (fun h => ?_)
      · exact wr_wk [true, false, true, true, true, true] (g_X3_run_32 l E (f_X3_run_5  n) x0 x2 x3 x4 v2 σ _ hx0 (fun x0 x2 x3 x4 σ hx0 h => ih x0 x2 x3 x4 σ hx0 h) h)
      · refine wr_iload (wg_da dt_X3_run 15 rfl) rfl ?_
        refine wr_iconst (3 : Int32) (wg_da dt_X3_run 16 rfl) (by decide) ?_
        refine wr_icmp_ne 81 (wg_da dt_X3_run 17 rfl) (by decide) h (fun h => ?_) (fun h => ?_)
        · exact wr_wk [true, false, true, true, true, true] (g_X3_run_32 l E (f_X3_run_5  n) x0 x2 x3 x4 v2 σ _ hx0 (fun x0 x2 x3 x4 σ hx0 h => ih x0 x2 x3 x4 σ hx0 h) h)
        · refine wr_iload (wg_da dt_X3_run 44 rfl) rfl ?_
          refine wr_sipush (272 : Int32) (wg_da dt_X3_run 45 rfl) (by decide) ?_
          refine wr_icmp_ne 114 (wg_da dt_X3_run 46 rfl) (by decide) h (fun h => ?_) (fun h => ?_)
          · refine wr_iload_n (wg_da dt_X3_run 47 rfl) rfl ?_
            refine wr_if_le 191 (wg_da dt_X3_run 48 rfl) (by decide) h (fun h => ?_) (fun h => ?_)
            · exact wr_wk [true, false, true, true, true, false] (g_X3_run_191 l E (f_X3_run_5  n) x0 x2 x3 x4 σ _ hx0 (fun x0 x2 x3 x4 σ hx0 h => ih x0 x2 x3 x4 σ hx0 h) h)
            · refine wr_aload_n (wg_da dt_X3_run 49 rfl) rfl ?_
              refine wr_getR wf_X3_30 (wg_da dt_X3_run 50 rfl) hx0 ?_
              refine wr_iload_n (wg_da dt_X3_run 51 rfl) rfl ?_
              refine wr_iconst (1 : Int32) (wg_da dt_X3_run 52 rfl) (by decide) ?_
              refine wr_isub (wg_da dt_X3_run 53 rfl) ?_
              refine wr_iconst (1 : Int32) (wg_da dt_X3_run 54 rfl) (by decide) ?_
              refine wr_aload_n (wg_da dt_X3_run 55 rfl) rfl ?_
              refine wr_getR wf_X3_30 (wg_da dt_X3_run 56 rfl) hx0 ?_
              refine wr_iload_n (wg_da dt_X3_run 57 rfl) rfl ?_
              refine wr_iconst (1 : Int32) (wg_da dt_X3_run 58 rfl) (by decide) ?_
              refine wr_isub (wg_da dt_X3_run 59 rfl) ?_
              refine wr_iald (wg_da dt_X3_run 60 rfl) (wg_ty Sc_ok 3 8 0 hx0 rfl (by decide)).2 h (fun v15 h => ?_)
              refine wr_isub (wg_da dt_X3_run 61 rfl) ?_
              refine wr_iast (wg_da dt_X3_run 62 rfl) (wg_ty Sc_ok 3 8 0 hx0 rfl (by decide)).2 h (fun s16 h => ?_)
              refine wr_goto 191 (wg_da dt_X3_run 63 rfl) (by decide) ?_
              exact wr_wk [true, false, true, true, true, false] (g_X3_run_191 l E (f_X3_run_5  n) x0 x2 x3 x4 s16 _ hx0 (fun x0 x2 x3 x4 σ hx0 h => ih x0 x2 x3 x4 σ hx0 h) h)
          · refine wr_iload (wg_da dt_X3_run 64 rfl) rfl ?_
            refine wr_bipush (47 : Int32) (wg_da dt_X3_run 65 rfl) (by decide) ?_
            refine wr_icmp_ne 156 (wg_da dt_X3_run 66 rfl) (by decide) h (fun h => ?_) (fun h => ?_)
            · refine wr_iload_n (wg_da dt_X3_run 67 rfl) rfl ?_
              refine wr_if_le 191 (wg_da dt_X3_run 68 rfl) (by decide) h (fun h => ?_) (fun h => ?_)
              · exact wr_wk [true, false, true, true, true, false] (g_X3_run_191 l E (f_X3_run_5  n) x0 x2 x3 x4 σ _ hx0 (fun x0 x2 x3 x4 σ hx0 h => ih x0 x2 x3 x4 σ hx0 h) h)
              · refine wr_aload_n (wg_da dt_X3_run 69 rfl) rfl ?_
                refine wr_getR wf_X3_15 (wg_da dt_X3_run 70 rfl) hx0 ?_
                refine wr_iload (wg_da dt_X3_run 71 rfl) rfl ?_
                refine wr_iald (wg_da dt_X3_run 72 rfl) (wg_ty Sc_ok 3 1 0 hx0 rfl (by decide)).2 h (fun v9 h => ?_)
                refine wr_if_eq 191 (wg_da dt_X3_run 73 rfl) (by decide) h (fun h => ?_) (fun h => ?_)
                · exact wr_wk [true, false, true, true, true, false] (g_X3_run_191 l E (f_X3_run_5  n) x0 x2 x3 x4 σ _ hx0 (fun x0 x2 x3 x4 σ hx0 h => ih x0 x2 x3 x4 σ hx0 h) h)
                · refine wr_aload_n (wg_da dt_X3_run 74 rfl) rfl ?_
                  refine wr_getR wf_X3_30 (wg_da dt_X3_run 75 rfl) hx0 ?_
                  refine wr_iload_n (wg_da dt_X3_run 76 rfl) rfl ?_
                  refine wr_iconst (1 : Int32) (wg_da dt_X3_run 77 rfl) (by decide) ?_
                  refine wr_isub (wg_da dt_X3_run 78 rfl) ?_
                  refine wr_let h (fun v10 h => ?_)
                  refine wr_dup2 (wg_da dt_X3_run 79 rfl) ?_
                  refine wr_iald (wg_da dt_X3_run 80 rfl) (wg_ty Sc_ok 3 8 0 hx0 rfl (by decide)).2 h (fun v11 h => ?_)
                  refine wr_aload_n (wg_da dt_X3_run 81 rfl) rfl ?_
                  refine wr_getR wf_X3_15 (wg_da dt_X3_run 82 rfl) hx0 ?_
                  refine wr_iload (wg_da dt_X3_run 83 rfl) rfl ?_
                  refine wr_iald (wg_da dt_X3_run 84 rfl) (wg_ty Sc_ok 3 1 0 hx0 rfl (by decide)).2 h (fun v12 h => ?_)
                  refine wr_idiv (wg_da dt_X3_run 85 rfl) h (fun v13 h => ?_)
                  refine wr_iast (wg_da dt_X3_run 86 rfl) (wg_ty Sc_ok 3 8 0 hx0 rfl (by decide)).2 h (fun s14 h => ?_)
                  refine wr_goto 191 (wg_da dt_X3_run 87 rfl) (by decide) ?_
                  exact wr_wk [true, false, true, true, true, false] (g_X3_run_191 l E (f_X3_run_5  n) x0 x2 x3 x4 s14 _ hx0 (fun x0 x2 x3 x4 σ hx0 h => ih x0 x2 x3 x4 σ hx0 h) h)
            · refine wr_iload_n (wg_da dt_X3_run 88 rfl) rfl ?_
              refine wr_iconst (1 : Int32) (wg_da dt_X3_run 89 rfl) (by decide) ?_
              refine wr_icmp_le 191 (wg_da dt_X3_run 90 rfl) (by decide) h (fun h => ?_) (fun h => ?_)
              · exact wr_wk [true, false, true, true, true, false] (g_X3_run_191 l E (f_X3_run_5  n) x0 x2 x3 x4 σ _ hx0 (fun x0 x2 x3 x4 σ hx0 h => ih x0 x2 x3 x4 σ hx0 h) h)
              · refine wr_iinc (c0 := (-1 : Int32)) (wg_da dt_X3_run 91 rfl) rfl (by decide) (by decide) h (fun v3 h => ?_)
                refine wr_aload_n (wg_da dt_X3_run 92 rfl) rfl ?_
                refine wr_getR wf_X3_30 (wg_da dt_X3_run 93 rfl) hx0 ?_
                refine wr_iload_n (wg_da dt_X3_run 94 rfl) rfl ?_
                refine wr_iconst (1 : Int32) (wg_da dt_X3_run 95 rfl) (by decide) ?_
                refine wr_isub (wg_da dt_X3_run 96 rfl) ?_
                refine wr_iload (wg_da dt_X3_run 97 rfl) rfl ?_
                refine wr_aload_n (wg_da dt_X3_run 98 rfl) rfl ?_
                refine wr_getR wf_X3_30 (wg_da dt_X3_run 99 rfl) hx0 ?_
                refine wr_iload_n (wg_da dt_X3_run 100 rfl) rfl ?_
                refine wr_iconst (1 : Int32) (wg_da dt_X3_run 101 rfl) (by decide) ?_
                refine wr_isub (wg_da dt_X3_run 102 rfl) ?_
                refine wr_iald (wg_da dt_X3_run 103 rfl) (wg_ty Sc_ok 3 8 0 hx0 rfl (by decide)).2 h (fun v4 h => ?_)
                refine wr_aload_n (wg_da dt_X3_run 104 rfl) rfl ?_
                refine wr_getR wf_X3_30 (wg_da dt_X3_run 105 rfl) hx0 ?_
                refine wr_iload_n (wg_da dt_X3_run 106 rfl) rfl ?_
                refine wr_iald (wg_da dt_X3_run 107 rfl) (wg_ty Sc_ok 3 8 0 hx0 rfl (by decide)).2 h (fun v5 h => ?_)
                refine wr_callSi [.int v2, .int v4, .int v5] [.int (v3 - (1 : Int32)), .ref (wg_r Sc x0 8)] (wg_da dt_X3_run 108 rfl) ⟨wq_3_192, wq_3_193⟩ wy_X3_joined (fun q hq => m_X3_joined l E v2 v4 v5  _ q hq) rfl rfl (Nat.le_of_ble_eq_true rfl) ⟨rfl, rfl, by decide, by decide⟩ h (fun v6 s7 h => ?_)
                refine wr_iast (wg_da dt_X3_run 109 rfl) (wg_ty Sc_ok 3 8 0 hx0 rfl (by decide)).2 h (fun s8 h => ?_)
                exact wr_wk [true, false, true, true, true, false] (g_X3_run_191 l E (f_X3_run_5  n) x0 x2 v3 x4 s8 _ hx0 (fun x0 x2 x3 x4 σ hx0 h => ih x0 x2 x3 x4 σ hx0 h) h)
set_option maxRecDepth 20000 in
theorem g_X3_run_e (l : Launch) (E : wg_E)  (x0 : Nat) (x1 : Int32) (x2 : Int32) (σ : wg_M) (z : Int32 × wg_M) (hx0 : wg_t Sc x0 = 5) (h : f_X3_run  x0 x1 x2 σ = some z) : wg_G l E Sc "WornWigs$Law" cX3_run 6 (some .int) rm_X3_run (some z.1) z.2 0 [some (.ref x0), some (.int x1), some (.int x2), none, none, none] [] σ := by
  refine wr_iconst (0 : Int32) (wg_da dt_X3_run 0 rfl) (by decide) ?_
  refine wr_istore_n (wg_da dt_X3_run 1 rfl) (by decide) ?_
  refine wr_iload_n (wg_da dt_X3_run 2 rfl) rfl ?_
  refine wr_istore (wg_da dt_X3_run 3 rfl) (by decide) ?_
  exact wr_wk [true, false, true, true, true, false] (g_X3_run_5 l E  _  wg_N x0 x2 (0 : Int32) x1 σ hx0 h)
theorem m_X3_run (l : Launch) (E : wg_E) (x0 : Nat) (x1 : Int32) (x2 : Int32) (hx0 : wg_t Sc x0 = 5) (σ : wg_M) (q : Int32 × wg_M) (h : f_X3_run x0 x1 x2 σ = some q) : wg_MG l E Sc yX3_run cX3_run 6 (some .int) rm_X3_run [.ref x0, .int x1, .int x2] σ (some q.1) q.2 :=
  wg_met [.ref x0, .int x1, .int x2] (plainFor_of_name (by decide)) (Nat.le_of_ble_eq_true rfl) (g_X3_run_e l E x0 x1 x2 σ q hx0 h)
abbrev rm_X3_tell : Room := { frames := 2, cells := 0, slots := 0, locals := 47 }
def tb_X3_tell : List (Nat × Instr × Nat) := [(0, .iconst 0, 1), (1, .istore_n 3, 1), (2, .iconst 0, 1), (3, .istore 4, 2), (5, .iload 4, 2), (7, .aload_n 0, 1), (8, .getfield 41, 3), (11, .if_icmp .ge 91, 3), (14, .aload_n 0, 1), (15, .getfield 18, 3), (18, .iload 4, 2), (20, .iaload, 1), (21, .iload_n 1, 1), (22, .if_icmp .ne 45, 3), (25, .aload_n 0, 1), (26, .getfield 21, 3), (29, .iload 4, 2), (31, .iaload, 1), (32, .aload_n 0, 1), (33, .getfield 24, 3), (36, .iload 4, 2), (38, .iaload, 1), (39, .if_icmp .eq 24, 3), (42, .aload_n 0, 1), (43, .aload_n 0, 1), (44, .getfield 21, 3), (47, .iload 4, 2), (49, .iaload, 1), (50, .aload_n 0, 1), (51, .getfield 24, 3), (54, .iload 4, 2), (56, .iaload, 1), (57, .invokevirtual 44, 3), (60, .ifCond .eq 7, 3), (63, .iconst 1, 1), (64, .goto 4, 3), (67, .iconst 0, 1), (68, .istore 5, 2), (70, .iload 5, 2), (72, .ifCond .eq 16, 3), (75, .aload_n 0, 1), (76, .iload_n 3, 1), (77, .aload_n 0, 1), (78, .getfield 21, 3), (81, .iload 4, 2), (83, .iaload, 1), (84, .invokevirtual 44, 3), (87, .ireturn, 1), (88, .aload_n 0, 1), (89, .getfield 24, 3), (92, .iload 4, 2), (94, .iaload, 1), (95, .istore_n 3, 1), (96, .iinc 4 1, 3), (99, .goto (-94), 3), (102, .iload_n 2, 1), (103, .ireturn, 1)]
theorem dt_X3_tell : wg_dc cX3_tell tb_X3_tell := by unfold wg_dc; decide +kernel
def f_X3_tell_68 (k5 : Nat → Int32 → Int32 → Int32 → Int32 → wg_M → Option (Int32 × wg_M)) (x0 : Nat) (x1 : Int32) (x2 : Int32) (x3 : Int32) (x4 : Int32) (t0 : Int32) (σ : wg_M) : Option (Int32 × wg_M) := if t0 = 0 then (wg_ga (wg_n Sc (wg_r Sc x0 5)) (σ (wg_r Sc x0 5)) x4 (fun v1 => wg_let (x4 + (1 : Int32)) (fun v2 => k5 x0 x1 x2 v1 v2 σ))) else (wg_ga (wg_n Sc (wg_r Sc x0 4)) (σ (wg_r Sc x0 4)) x4 (fun v3 => wg_bd (f_X3_run x0 x3 v3 σ) (fun v4 s5 => some (v4, s5))))
def f_X3_tell_67 (k5 : Nat → Int32 → Int32 → Int32 → Int32 → wg_M → Option (Int32 × wg_M)) (x0 : Nat) (x1 : Int32) (x2 : Int32) (x3 : Int32) (x4 : Int32) (σ : wg_M) : Option (Int32 × wg_M) := f_X3_tell_68 k5 x0 x1 x2 x3 x4 (0 : Int32) σ
def f_X3_tell_63 (k5 : Nat → Int32 → Int32 → Int32 → Int32 → wg_M → Option (Int32 × wg_M)) (x0 : Nat) (x1 : Int32) (x2 : Int32) (x3 : Int32) (x4 : Int32) (σ : wg_M) : Option (Int32 × wg_M) := f_X3_tell_68 k5 x0 x1 x2 x3 x4 (1 : Int32) σ
def f_X3_tell_5  : Nat → Nat → Int32 → Int32 → Int32 → Int32 → wg_M → Option (Int32 × wg_M)
  | 0, _, _, _, _, _, _ => none
  | n + 1, x0, x1, x2, x3, x4, σ => if (σ x0 6) ≤ x4 then (some (x2, σ)) else (wg_ga (wg_n Sc (wg_r Sc x0 3)) (σ (wg_r Sc x0 3)) x4 (fun v1 => if v1 = x1 then (wg_ga (wg_n Sc (wg_r Sc x0 4)) (σ (wg_r Sc x0 4)) x4 (fun v2 => wg_ga (wg_n Sc (wg_r Sc x0 5)) (σ (wg_r Sc x0 5)) x4 (fun v3 => if v2 = v3 then (f_X3_tell_63 (f_X3_tell_5  n) x0 x1 x2 x3 x4 σ) else (wg_ga (wg_n Sc (wg_r Sc x0 4)) (σ (wg_r Sc x0 4)) x4 (fun v4 => wg_ga (wg_n Sc (wg_r Sc x0 5)) (σ (wg_r Sc x0 5)) x4 (fun v5 => wg_bd (f_X3_run x0 v4 v5 σ) (fun v6 s7 => if v6 = 0 then (f_X3_tell_67 (f_X3_tell_5  n) x0 x1 x2 x3 x4 s7) else (f_X3_tell_63 (f_X3_tell_5  n) x0 x1 x2 x3 x4 s7)))))))) else (f_X3_tell_67 (f_X3_tell_5  n) x0 x1 x2 x3 x4 σ)))
def f_X3_tell  (x0 : Nat) (x1 : Int32) (x2 : Int32) (σ : wg_M) : Option (Int32 × wg_M) := f_X3_tell_5  wg_N x0 x1 x2 (0 : Int32) (0 : Int32) σ
set_option maxRecDepth 20000 in
theorem g_X3_tell_68 (l : Launch) (E : wg_E) (k5 : Nat → Int32 → Int32 → Int32 → Int32 → wg_M → Option (Int32 × wg_M)) (x0 : Nat) (x1 : Int32) (x2 : Int32) (x3 : Int32) (x4 : Int32) (t0 : Int32) (σ : wg_M) (z : Int32 × wg_M) (hx0 : wg_t Sc x0 = 5) (hk5 : ∀ (x0 : Nat) (x1 : Int32) (x2 : Int32) (x3 : Int32) (x4 : Int32) (σ : wg_M), wg_t Sc x0 = 5 → k5 x0 x1 x2 x3 x4 σ = some z → wg_G l E Sc "WornWigs$Law" cX3_tell 6 (some .int) rm_X3_tell (some z.1) z.2 5 [some (.ref x0), some (.int x1), some (.int x2), some (.int x3), some (.int x4), none] [] σ) (h : f_X3_tell_68 k5 x0 x1 x2 x3 x4 t0 σ = some z) : wg_G l E Sc "WornWigs$Law" cX3_tell 6 (some .int) rm_X3_tell (some z.1) z.2 68 [some (.ref x0), some (.int x1), some (.int x2), some (.int x3), some (.int x4), none] [.int t0] σ := by
  refine wr_istore (wg_da dt_X3_tell 37 rfl) (by decide) ?_
  refine wr_iload (wg_da dt_X3_tell 38 rfl) rfl ?_
  refine wr_if_eq 88 (wg_da dt_X3_tell 39 rfl) (by decide) h (fun h => ?_) (fun h => ?_)
  · refine wr_aload_n (wg_da dt_X3_tell 48 rfl) rfl ?_
    refine wr_getR wf_X3_24 (wg_da dt_X3_tell 49 rfl) hx0 ?_
    refine wr_iload (wg_da dt_X3_tell 50 rfl) rfl ?_
    refine wr_iald (wg_da dt_X3_tell 51 rfl) (wg_ty Sc_ok 3 5 0 hx0 rfl (by decide)).2 h (fun v1 h => ?_)
    refine wr_istore_n (wg_da dt_X3_tell 52 rfl) (by decide) ?_
    refine wr_iinc (c0 := (1 : Int32)) (wg_da dt_X3_tell 53 rfl) rfl (by decide) (by decide) h (fun v2 h => ?_)
    refine wr_goto 5 (wg_da dt_X3_tell 54 rfl) (by decide) ?_
    exact wr_wk [true, true, true, true, true, false] (hk5 x0 x1 x2 v1 v2 σ hx0 h)
  · refine wr_aload_n (wg_da dt_X3_tell 40 rfl) rfl ?_
    refine wr_iload_n (wg_da dt_X3_tell 41 rfl) rfl ?_
    refine wr_aload_n (wg_da dt_X3_tell 42 rfl) rfl ?_
    refine wr_getR wf_X3_21 (wg_da dt_X3_tell 43 rfl) hx0 ?_
    refine wr_iload (wg_da dt_X3_tell 44 rfl) rfl ?_
    refine wr_iald (wg_da dt_X3_tell 45 rfl) (wg_ty Sc_ok 3 4 0 hx0 rfl (by decide)).2 h (fun v3 h => ?_)
    refine wr_callVi [.int x3, .int v3] [] (wg_da dt_X3_tell 46 rfl) ⟨wq_3_188, wq_3_190, wq_p1_6⟩ hx0 ⟨rfl, by decide⟩ wy_X3_run (fun q hq => m_X3_run l E x0 x3 v3 hx0 _ q hq) rfl rfl (Nat.le_of_ble_eq_true rfl) ⟨rfl, rfl, by decide, by decide⟩ h (fun v4 s5 h => ?_)
    exact wr_iret (wg_da dt_X3_tell 47 rfl) h
set_option maxRecDepth 20000 in
theorem g_X3_tell_67 (l : Launch) (E : wg_E) (k5 : Nat → Int32 → Int32 → Int32 → Int32 → wg_M → Option (Int32 × wg_M)) (x0 : Nat) (x1 : Int32) (x2 : Int32) (x3 : Int32) (x4 : Int32) (σ : wg_M) (z : Int32 × wg_M) (hx0 : wg_t Sc x0 = 5) (hk5 : ∀ (x0 : Nat) (x1 : Int32) (x2 : Int32) (x3 : Int32) (x4 : Int32) (σ : wg_M), wg_t Sc x0 = 5 → k5 x0 x1 x2 x3 x4 σ = some z → wg_G l E Sc "WornWigs$Law" cX3_tell 6 (some .int) rm_X3_tell (some z.1) z.2 5 [some (.ref x0), some (.int x1), some (.int x2), some (.int x3), some (.int x4), none] [] σ) (h : f_X3_tell_67 k5 x0 x1 x2 x3 x4 σ = some z) : wg_G l E Sc "WornWigs$Law" cX3_tell 6 (some .int) rm_X3_tell (some z.1) z.2 67 [some (.ref x0), some (.int x1), some (.int x2), some (.int x3), some (.int x4), none] [] σ := by
  refine wr_iconst (0 : Int32) (wg_da dt_X3_tell 36 rfl) (by decide) ?_
  exact wr_wk [true, true, true, true, true, false] (g_X3_tell_68 l E k5 x0 x1 x2 x3 x4 (0 : Int32) σ _ hx0 hk5 h)
set_option maxRecDepth 20000 in
theorem g_X3_tell_63 (l : Launch) (E : wg_E) (k5 : Nat → Int32 → Int32 → Int32 → Int32 → wg_M → Option (Int32 × wg_M)) (x0 : Nat) (x1 : Int32) (x2 : Int32) (x3 : Int32) (x4 : Int32) (σ : wg_M) (z : Int32 × wg_M) (hx0 : wg_t Sc x0 = 5) (hk5 : ∀ (x0 : Nat) (x1 : Int32) (x2 : Int32) (x3 : Int32) (x4 : Int32) (σ : wg_M), wg_t Sc x0 = 5 → k5 x0 x1 x2 x3 x4 σ = some z → wg_G l E Sc "WornWigs$Law" cX3_tell 6 (some .int) rm_X3_tell (some z.1) z.2 5 [some (.ref x0), some (.int x1), some (.int x2), some (.int x3), some (.int x4), none] [] σ) (h : f_X3_tell_63 k5 x0 x1 x2 x3 x4 σ = some z) : wg_G l E Sc "WornWigs$Law" cX3_tell 6 (some .int) rm_X3_tell (some z.1) z.2 63 [some (.ref x0), some (.int x1), some (.int x2), some (.int x3), some (.int x4), none] [] σ := by
  refine wr_iconst (1 : Int32) (wg_da dt_X3_tell 34 rfl) (by decide) ?_
  refine wr_goto 68 (wg_da dt_X3_tell 35 rfl) (by decide) ?_
  exact wr_wk [true, true, true, true, true, false] (g_X3_tell_68 l E k5 x0 x1 x2 x3 x4 (1 : Int32) σ _ hx0 hk5 h)
set_option maxRecDepth 20000 in
theorem g_X3_tell_5 (l : Launch) (E : wg_E)  (z : Int32 × wg_M) : ∀ (n : Nat) (x0 : Nat) (x1 : Int32) (x2 : Int32) (x3 : Int32) (x4 : Int32) (σ : wg_M) (hx0 : wg_t Sc x0 = 5) (h : f_X3_tell_5  n x0 x1 x2 x3 x4 σ = some z), wg_G l E Sc "WornWigs$Law" cX3_tell 6 (some .int) rm_X3_tell (some z.1) z.2 5 [some (.ref x0), some (.int x1), some (.int x2), some (.int x3), some (.int x4), none] [] σ := by
  intro n
  induction n with
  | zero => intro x0 x1 x2 x3 x4 σ hx0 h; cases h
  | succ n ih =>
    intro x0 x1 x2 x3 x4 σ hx0 h
    refine wr_iload (wg_da dt_X3_tell 4 rfl) rfl ?_
    refine wr_aload_n (wg_da dt_X3_tell 5 rfl) rfl ?_
    refine wr_getI wf_X3_41 (wg_da dt_X3_tell 6 rfl) hx0 ?_
    refine wr_icmp_ge 102 (wg_da dt_X3_tell 7 rfl) (by decide) h (fun h => ?_) (fun h => ?_)
    · refine wr_iload_n (wg_da dt_X3_tell 55 rfl) rfl ?_
      exact wr_iret (wg_da dt_X3_tell 56 rfl) h
    · refine wr_aload_n (wg_da dt_X3_tell 8 rfl) rfl ?_
      refine wr_getR wf_X3_18 (wg_da dt_X3_tell 9 rfl) hx0 ?_
      refine wr_iload (wg_da dt_X3_tell 10 rfl) rfl ?_
      refine wr_iald (wg_da dt_X3_tell 11 rfl) (wg_ty Sc_ok 3 3 0 hx0 rfl (by decide)).2 h (fun v1 h => ?_)
      refine wr_iload_n (wg_da dt_X3_tell 12 rfl) rfl ?_
      refine wr_icmp_ne 67 (wg_da dt_X3_tell 13 rfl) (by decide) h (fun h => ?_) (fun h => ?_)
      · refine wr_aload_n (wg_da dt_X3_tell 14 rfl) rfl ?_
        refine wr_getR wf_X3_21 (wg_da dt_X3_tell 15 rfl) hx0 ?_
        refine wr_iload (wg_da dt_X3_tell 16 rfl) rfl ?_
        refine wr_iald (wg_da dt_X3_tell 17 rfl) (wg_ty Sc_ok 3 4 0 hx0 rfl (by decide)).2 h (fun v2 h => ?_)
        refine wr_aload_n (wg_da dt_X3_tell 18 rfl) rfl ?_
        refine wr_getR wf_X3_24 (wg_da dt_X3_tell 19 rfl) hx0 ?_
        refine wr_iload (wg_da dt_X3_tell 20 rfl) rfl ?_
        refine wr_iald (wg_da dt_X3_tell 21 rfl) (wg_ty Sc_ok 3 5 0 hx0 rfl (by decide)).2 h (fun v3 h => ?_)
        refine wr_icmp_eq 63 (wg_da dt_X3_tell 22 rfl) (by decide) h (fun h => ?_) (fun h => ?_)
        · exact wr_wk [true, true, true, true, true, false] (g_X3_tell_63 l E (f_X3_tell_5  n) x0 x1 x2 x3 x4 σ _ hx0 (fun x0 x1 x2 x3 x4 σ hx0 h => ih x0 x1 x2 x3 x4 σ hx0 h) h)
        · refine wr_aload_n (wg_da dt_X3_tell 23 rfl) rfl ?_
          refine wr_aload_n (wg_da dt_X3_tell 24 rfl) rfl ?_
          refine wr_getR wf_X3_21 (wg_da dt_X3_tell 25 rfl) hx0 ?_
          refine wr_iload (wg_da dt_X3_tell 26 rfl) rfl ?_
          refine wr_iald (wg_da dt_X3_tell 27 rfl) (wg_ty Sc_ok 3 4 0 hx0 rfl (by decide)).2 h (fun v4 h => ?_)
          refine wr_aload_n (wg_da dt_X3_tell 28 rfl) rfl ?_
          refine wr_getR wf_X3_24 (wg_da dt_X3_tell 29 rfl) hx0 ?_
          refine wr_iload (wg_da dt_X3_tell 30 rfl) rfl ?_
          refine wr_iald (wg_da dt_X3_tell 31 rfl) (wg_ty Sc_ok 3 5 0 hx0 rfl (by decide)).2 h (fun v5 h => ?_)
          refine wr_callVi [.int v4, .int v5] [] (wg_da dt_X3_tell 32 rfl) ⟨wq_3_188, wq_3_190, wq_p1_6⟩ hx0 ⟨rfl, by decide⟩ wy_X3_run (fun q hq => m_X3_run l E x0 v4 v5 hx0 _ q hq) rfl rfl (Nat.le_of_ble_eq_true rfl) ⟨rfl, rfl, by decide, by decide⟩ h (fun v6 s7 h => ?_)
          refine wr_if_eq 67 (wg_da dt_X3_tell 33 rfl) (by decide) h (fun h => ?_) (fun h => ?_)
          · exact wr_wk [true, true, true, true, true, false] (g_X3_tell_67 l E (f_X3_tell_5  n) x0 x1 x2 x3 x4 s7 _ hx0 (fun x0 x1 x2 x3 x4 σ hx0 h => ih x0 x1 x2 x3 x4 σ hx0 h) h)
          · exact wr_wk [true, true, true, true, true, false] (g_X3_tell_63 l E (f_X3_tell_5  n) x0 x1 x2 x3 x4 s7 _ hx0 (fun x0 x1 x2 x3 x4 σ hx0 h => ih x0 x1 x2 x3 x4 σ hx0 h) h)
      · exact wr_wk [true, true, true, true, true, false] (g_X3_tell_67 l E (f_X3_tell_5  n) x0 x1 x2 x3 x4 σ _ hx0 (fun x0 x1 x2 x3 x4 σ hx0 h => ih x0 x1 x2 x3 x4 σ hx0 h) h)
set_option maxRecDepth 20000 in
theorem g_X3_tell_e (l : Launch) (E : wg_E)  (x0 : Nat) (x1 : Int32) (x2 : Int32) (σ : wg_M) (z : Int32 × wg_M) (hx0 : wg_t Sc x0 = 5) (h : f_X3_tell  x0 x1 x2 σ = some z) : wg_G l E Sc "WornWigs$Law" cX3_tell 6 (some .int) rm_X3_tell (some z.1) z.2 0 [some (.ref x0), some (.int x1), some (.int x2), none, none, none] [] σ := by
  refine wr_iconst (0 : Int32) (wg_da dt_X3_tell 0 rfl) (by decide) ?_
  refine wr_istore_n (wg_da dt_X3_tell 1 rfl) (by decide) ?_
  refine wr_iconst (0 : Int32) (wg_da dt_X3_tell 2 rfl) (by decide) ?_
  refine wr_istore (wg_da dt_X3_tell 3 rfl) (by decide) ?_
  exact wr_wk [true, true, true, true, true, false] (g_X3_tell_5 l E  _  wg_N x0 x1 x2 (0 : Int32) (0 : Int32) σ hx0 h)
theorem m_X3_tell (l : Launch) (E : wg_E) (x0 : Nat) (x1 : Int32) (x2 : Int32) (hx0 : wg_t Sc x0 = 5) (σ : wg_M) (q : Int32 × wg_M) (h : f_X3_tell x0 x1 x2 σ = some q) : wg_MG l E Sc yX3_tell cX3_tell 6 (some .int) rm_X3_tell [.ref x0, .int x1, .int x2] σ (some q.1) q.2 :=
  wg_met [.ref x0, .int x1, .int x2] (plainFor_of_name (by decide)) (Nat.le_of_ble_eq_true rfl) (g_X3_tell_e l E x0 x1 x2 σ q hx0 h)
abbrev rm_J9_max_7cf53 : Room := { frames := 0, cells := 0, slots := 0, locals := 0 }
def tb_J9_max_7cf53 : List (Nat × Instr × Nat) := [(0, .iload_n 0, 1), (1, .iload_n 1, 1), (2, .if_icmp .lt 7, 3), (5, .iload_n 0, 1), (6, .goto 4, 3), (9, .iload_n 1, 1), (10, .ireturn, 1)]
theorem dt_J9_max_7cf53 : wg_dc cJ9_max_7cf53 tb_J9_max_7cf53 := by unfold wg_dc; decide +kernel
def f_J9_max_7cf53  (x0 : Int32) (x1 : Int32) (σ : wg_M) : Option (Int32 × wg_M) := if x0 < x1 then (some (x1, σ)) else (some (x0, σ))
set_option maxRecDepth 20000 in
theorem g_J9_max_7cf53_e (l : Launch) (E : wg_E)  (x0 : Int32) (x1 : Int32) (σ : wg_M) (z : Int32 × wg_M)  (h : f_J9_max_7cf53  x0 x1 σ = some z) : wg_G l E Sc "java/lang/Math" cJ9_max_7cf53 2 (some .int) rm_J9_max_7cf53 (some z.1) z.2 0 [some (.int x0), some (.int x1)] [] σ := by
  refine wr_iload_n (wg_da dt_J9_max_7cf53 0 rfl) rfl ?_
  refine wr_iload_n (wg_da dt_J9_max_7cf53 1 rfl) rfl ?_
  refine wr_icmp_lt 9 (wg_da dt_J9_max_7cf53 2 rfl) (by decide) h (fun h => ?_) (fun h => ?_)
  · refine wr_iload_n (wg_da dt_J9_max_7cf53 5 rfl) rfl ?_
    exact wr_iret (wg_da dt_J9_max_7cf53 6 rfl) h
  · refine wr_iload_n (wg_da dt_J9_max_7cf53 3 rfl) rfl ?_
    refine wr_goto 10 (wg_da dt_J9_max_7cf53 4 rfl) (by decide) ?_
    exact wr_iret (wg_da dt_J9_max_7cf53 6 rfl) h
theorem m_J9_max_7cf53 (l : Launch) (E : wg_E) (x0 : Int32) (x1 : Int32)  (σ : wg_M) (q : Int32 × wg_M) (h : f_J9_max_7cf53 x0 x1 σ = some q) : wg_MG l E Sc yJ9_max_7cf53 cJ9_max_7cf53 2 (some .int) rm_J9_max_7cf53 [.int x0, .int x1] σ (some q.1) q.2 :=
  wg_met [.int x0, .int x1] (by decide +kernel) (Nat.le_of_ble_eq_true rfl) (g_J9_max_7cf53_e l E x0 x1 σ q  h)
abbrev rm_X11_held : Room := { frames := 1, cells := 0, slots := 0, locals := 21 }
def tb_X11_held : List (Nat × Instr × Nat) := [(0, .iload_n 1, 1), (1, .iload_n 2, 1), (2, .iload_n 0, 1), (3, .invokestatic 399, 3), (6, .invokestatic 404, 3), (9, .ireturn, 1)]
theorem dt_X11_held : wg_dc cX11_held tb_X11_held := by unfold wg_dc; decide +kernel
def f_X11_held  (x0 : Int32) (x1 : Int32) (x2 : Int32) (σ : wg_M) : Option (Int32 × wg_M) := wg_bd (f_J9_min_7cf53 x2 x0 σ) (fun v1 s2 => wg_bd (f_J9_max_7cf53 x1 v1 s2) (fun v3 s4 => some (v3, s4)))
set_option maxRecDepth 20000 in
theorem g_X11_held_e (l : Launch) (E : wg_E)  (x0 : Int32) (x1 : Int32) (x2 : Int32) (σ : wg_M) (z : Int32 × wg_M)  (h : f_X11_held  x0 x1 x2 σ = some z) : wg_G l E Sc "WornWigs" cX11_held 3 (some .int) rm_X11_held (some z.1) z.2 0 [some (.int x0), some (.int x1), some (.int x2)] [] σ := by
  refine wr_iload_n (wg_da dt_X11_held 0 rfl) rfl ?_
  refine wr_iload_n (wg_da dt_X11_held 1 rfl) rfl ?_
  refine wr_iload_n (wg_da dt_X11_held 2 rfl) rfl ?_
  refine wr_callSi [.int x2, .int x0] [.int x1] (wg_da dt_X11_held 3 rfl) ⟨wq_3_145, wq_3_98⟩ wy_J9_min_7cf53 (fun q hq => m_J9_min_7cf53 l E x2 x0  _ q hq) rfl rfl (Nat.le_of_ble_eq_true rfl) ⟨rfl, rfl, by decide, by decide⟩ h (fun v1 s2 h => ?_)
  refine wr_callSi [.int x1, .int v1] [] (wg_da dt_X11_held 4 rfl) ⟨wq_3_198, wq_1_202⟩ wy_J9_max_7cf53 (fun q hq => m_J9_max_7cf53 l E x1 v1  _ q hq) rfl rfl (Nat.le_of_ble_eq_true rfl) ⟨rfl, rfl, by decide, by decide⟩ h (fun v3 s4 h => ?_)
  exact wr_iret (wg_da dt_X11_held 5 rfl) h
theorem m_X11_held (l : Launch) (E : wg_E) (x0 : Int32) (x1 : Int32) (x2 : Int32)  (σ : wg_M) (q : Int32 × wg_M) (h : f_X11_held x0 x1 x2 σ = some q) : wg_MG l E Sc yX11_held cX11_held 3 (some .int) rm_X11_held [.int x0, .int x1, .int x2] σ (some q.1) q.2 :=
  wg_met [.int x0, .int x1, .int x2] (plainFor_of_name (by decide)) (Nat.le_of_ble_eq_true rfl) (g_X11_held_e l E x0 x1 x2 σ q  h)
abbrev rm_X1_countsOf : Room := { frames := 3, cells := 0, slots := 0, locals := 72 }
def tb_X1_countsOf : List (Nat × Instr × Nat) := [(0, .iload_n 1, 1), (1, .bipush 8, 2), (3, .imul, 1), (4, .iload_n 2, 1), (5, .iadd, 1), (6, .istore 4, 2), (8, .aload_n 0, 1), (9, .invokevirtual 108, 3), (12, .aload_n 0, 1), (13, .iload_n 3, 1), (14, .invokevirtual 111, 3), (17, .aload_n 0, 1), (18, .iload_n 1, 1), (19, .invokevirtual 115, 3), (22, .aload_n 0, 1), (23, .getfield 42, 3), (26, .getfield 71, 3), (29, .bipush 6, 2), (31, .aload_n 0, 1), (32, .getfield 32, 3), (35, .getfield 118, 3), (38, .iload 4, 2), (40, .iaload, 1), (41, .iastore, 1), (42, .aload_n 0, 1), (43, .getfield 42, 3), (46, .getfield 71, 3), (49, .bipush 7, 2), (51, .aload_n 0, 1), (52, .getfield 32, 3), (55, .getfield 121, 3), (58, .iload 4, 2), (60, .iaload, 1), (61, .iastore, 1), (62, .aload_n 0, 1), (63, .getfield 42, 3), (66, .sipush 266, 3), (69, .aload_n 0, 1), (70, .getfield 32, 3), (73, .getfield 121, 3), (76, .iload 4, 2), (78, .iaload, 1), (79, .invokevirtual 124, 3), (82, .iconst 0, 1), (83, .bipush 99, 2), (85, .invokestatic 128, 3), (88, .ireturn, 1)]
theorem dt_X1_countsOf : wg_dc cX1_countsOf tb_X1_countsOf := by unfold wg_dc; decide +kernel
def f_X1_countsOf  (x0 : Nat) (x1 : Int32) (x2 : Int32) (x3 : Int32) (σ : wg_M) : Option (Int32 × wg_M) := wg_let ((x1 * (8 : Int32)) + x2) (fun v1 => wg_bd (f_X1_askNobody x0 σ) (fun _ s2 => wg_bd (f_X1_askJudge x0 x3 s2) (fun _ s3 => wg_bd (f_X1_askWig x0 x1 s3) (fun _ s4 => wg_ga (wg_n Sc (wg_r Sc (wg_r Sc x0 2) 5)) (s4 (wg_r Sc (wg_r Sc x0 2) 5)) v1 (fun v5 => wg_sa (wg_n Sc (wg_r Sc (wg_r Sc x0 4) 7)) s4 (wg_r Sc (wg_r Sc x0 4) 7) (6 : Int32) v5 (fun s6 => wg_ga (wg_n Sc (wg_r Sc (wg_r Sc x0 2) 7)) (s6 (wg_r Sc (wg_r Sc x0 2) 7)) v1 (fun v7 => wg_sa (wg_n Sc (wg_r Sc (wg_r Sc x0 4) 7)) s6 (wg_r Sc (wg_r Sc x0 4) 7) (7 : Int32) v7 (fun s8 => wg_ga (wg_n Sc (wg_r Sc (wg_r Sc x0 2) 7)) (s8 (wg_r Sc (wg_r Sc x0 2) 7)) v1 (fun v9 => wg_bd (f_X3_tell (wg_r Sc x0 4) (266 : Int32) v9 s8) (fun v10 s11 => wg_bd (f_X11_held v10 (0 : Int32) (99 : Int32) s11) (fun v12 s13 => some (v12, s13))))))))))))
set_option maxRecDepth 20000 in
theorem g_X1_countsOf_e (l : Launch) (E : wg_E)  (x0 : Nat) (x1 : Int32) (x2 : Int32) (x3 : Int32) (σ : wg_M) (z : Int32 × wg_M) (hx0 : wg_t Sc x0 = 3) (h : f_X1_countsOf  x0 x1 x2 x3 σ = some z) : wg_G l E Sc "WornWigs$Court" cX1_countsOf 5 (some .int) rm_X1_countsOf (some z.1) z.2 0 [some (.ref x0), some (.int x1), some (.int x2), some (.int x3), none] [] σ := by
  refine wr_iload_n (wg_da dt_X1_countsOf 0 rfl) rfl ?_
  refine wr_bipush (8 : Int32) (wg_da dt_X1_countsOf 1 rfl) (by decide) ?_
  refine wr_imul (wg_da dt_X1_countsOf 2 rfl) ?_
  refine wr_iload_n (wg_da dt_X1_countsOf 3 rfl) rfl ?_
  refine wr_iadd (wg_da dt_X1_countsOf 4 rfl) ?_
  refine wr_let h (fun v1 h => ?_)
  refine wr_istore (wg_da dt_X1_countsOf 5 rfl) (by decide) ?_
  refine wr_aload_n (wg_da dt_X1_countsOf 6 rfl) rfl ?_
  refine wr_callVv [] [] (wg_da dt_X1_countsOf 7 rfl) ⟨wq_3_169, wq_3_171, wq_p1_3⟩ hx0 ⟨rfl, by decide⟩ wy_X1_askNobody (fun q hq => m_X1_askNobody l E x0 hx0 _ q hq) rfl rfl (Nat.le_of_ble_eq_true rfl) ⟨rfl, rfl, by decide, by decide⟩ h (fun _ s2 h => ?_)
  refine wr_aload_n (wg_da dt_X1_countsOf 8 rfl) rfl ?_
  refine wr_iload_n (wg_da dt_X1_countsOf 9 rfl) rfl ?_
  refine wr_callVv [.int x3] [] (wg_da dt_X1_countsOf 10 rfl) ⟨wq_3_176, wq_3_178, wq_p1_4⟩ hx0 ⟨rfl, by decide⟩ wy_X1_askJudge (fun q hq => m_X1_askJudge l E x0 x3 hx0 _ q hq) rfl rfl (Nat.le_of_ble_eq_true rfl) ⟨rfl, rfl, by decide, by decide⟩ h (fun _ s3 h => ?_)
  refine wr_aload_n (wg_da dt_X1_countsOf 11 rfl) rfl ?_
  refine wr_iload_n (wg_da dt_X1_countsOf 12 rfl) rfl ?_
  refine wr_callVv [.int x1] [] (wg_da dt_X1_countsOf 13 rfl) ⟨wq_3_180, wq_3_182, wq_p1_5⟩ hx0 ⟨rfl, by decide⟩ wy_X1_askWig (fun q hq => m_X1_askWig l E x0 x1 hx0 _ q hq) rfl rfl (Nat.le_of_ble_eq_true rfl) ⟨rfl, rfl, by decide, by decide⟩ h (fun _ s4 h => ?_)
  refine wr_aload_n (wg_da dt_X1_countsOf 14 rfl) rfl ?_
  refine wr_getR wf_X1_42 (wg_da dt_X1_countsOf 15 rfl) hx0 ?_
  refine wr_getR wf_X1_71 (wg_da dt_X1_countsOf 16 rfl) (wg_ty Sc_ok 1 4 5 hx0 rfl (by decide)).2 ?_
  refine wr_bipush (6 : Int32) (wg_da dt_X1_countsOf 17 rfl) (by decide) ?_
  refine wr_aload_n (wg_da dt_X1_countsOf 18 rfl) rfl ?_
  refine wr_getR wf_X1_32 (wg_da dt_X1_countsOf 19 rfl) hx0 ?_
  refine wr_getR wf_X1_118 (wg_da dt_X1_countsOf 20 rfl) (wg_ty Sc_ok 1 2 11 hx0 rfl (by decide)).2 ?_
  refine wr_iload (wg_da dt_X1_countsOf 21 rfl) rfl ?_
  refine wr_iald (wg_da dt_X1_countsOf 22 rfl) (wg_ty Sc_ok 9 5 0 (wg_ty Sc_ok 1 2 11 hx0 rfl (by decide)).2 rfl (by decide)).2 h (fun v5 h => ?_)
  refine wr_iast (wg_da dt_X1_countsOf 23 rfl) (wg_ty Sc_ok 3 7 0 (wg_ty Sc_ok 1 4 5 hx0 rfl (by decide)).2 rfl (by decide)).2 h (fun s6 h => ?_)
  refine wr_aload_n (wg_da dt_X1_countsOf 24 rfl) rfl ?_
  refine wr_getR wf_X1_42 (wg_da dt_X1_countsOf 25 rfl) hx0 ?_
  refine wr_getR wf_X1_71 (wg_da dt_X1_countsOf 26 rfl) (wg_ty Sc_ok 1 4 5 hx0 rfl (by decide)).2 ?_
  refine wr_bipush (7 : Int32) (wg_da dt_X1_countsOf 27 rfl) (by decide) ?_
  refine wr_aload_n (wg_da dt_X1_countsOf 28 rfl) rfl ?_
  refine wr_getR wf_X1_32 (wg_da dt_X1_countsOf 29 rfl) hx0 ?_
  refine wr_getR wf_X1_121 (wg_da dt_X1_countsOf 30 rfl) (wg_ty Sc_ok 1 2 11 hx0 rfl (by decide)).2 ?_
  refine wr_iload (wg_da dt_X1_countsOf 31 rfl) rfl ?_
  refine wr_iald (wg_da dt_X1_countsOf 32 rfl) (wg_ty Sc_ok 9 7 0 (wg_ty Sc_ok 1 2 11 hx0 rfl (by decide)).2 rfl (by decide)).2 h (fun v7 h => ?_)
  refine wr_iast (wg_da dt_X1_countsOf 33 rfl) (wg_ty Sc_ok 3 7 0 (wg_ty Sc_ok 1 4 5 hx0 rfl (by decide)).2 rfl (by decide)).2 h (fun s8 h => ?_)
  refine wr_aload_n (wg_da dt_X1_countsOf 34 rfl) rfl ?_
  refine wr_getR wf_X1_42 (wg_da dt_X1_countsOf 35 rfl) hx0 ?_
  refine wr_sipush (266 : Int32) (wg_da dt_X1_countsOf 36 rfl) (by decide) ?_
  refine wr_aload_n (wg_da dt_X1_countsOf 37 rfl) rfl ?_
  refine wr_getR wf_X1_32 (wg_da dt_X1_countsOf 38 rfl) hx0 ?_
  refine wr_getR wf_X1_121 (wg_da dt_X1_countsOf 39 rfl) (wg_ty Sc_ok 1 2 11 hx0 rfl (by decide)).2 ?_
  refine wr_iload (wg_da dt_X1_countsOf 40 rfl) rfl ?_
  refine wr_iald (wg_da dt_X1_countsOf 41 rfl) (wg_ty Sc_ok 9 7 0 (wg_ty Sc_ok 1 2 11 hx0 rfl (by decide)).2 rfl (by decide)).2 h (fun v9 h => ?_)
  refine wr_callVi [.int (266 : Int32), .int v9] [] (wg_da dt_X1_countsOf 42 rfl) ⟨wq_3_184, wq_3_185, wq_3_186⟩ (wg_ty Sc_ok 1 4 5 hx0 rfl (by decide)).2 ⟨rfl, by decide⟩ wy_X3_tell (fun q hq => m_X3_tell l E (wg_r Sc x0 4) (266 : Int32) v9 (wg_ty Sc_ok 1 4 5 hx0 rfl (by decide)).2 _ q hq) rfl rfl (Nat.le_of_ble_eq_true rfl) ⟨rfl, rfl, by decide, by decide⟩ h (fun v10 s11 h => ?_)
  refine wr_iconst (0 : Int32) (wg_da dt_X1_countsOf 43 rfl) (by decide) ?_
  refine wr_bipush (99 : Int32) (wg_da dt_X1_countsOf 44 rfl) (by decide) ?_
  refine wr_callNi [.int v10, .int (0 : Int32), .int (99 : Int32)] [] (wg_da dt_X1_countsOf 45 rfl) ⟨List.mem_of_getElem? (i := 12) rfl, wq_3_196⟩ wy_X11_held (fun q hq => m_X11_held l E v10 (0 : Int32) (99 : Int32)  _ q hq) rfl rfl (Nat.le_of_ble_eq_true rfl) ⟨rfl, rfl, by decide, by decide⟩ h (fun v12 s13 h => ?_)
  exact wr_iret (wg_da dt_X1_countsOf 46 rfl) h
theorem m_X1_countsOf (l : Launch) (E : wg_E) (x0 : Nat) (x1 : Int32) (x2 : Int32) (x3 : Int32) (hx0 : wg_t Sc x0 = 3) (σ : wg_M) (q : Int32 × wg_M) (h : f_X1_countsOf x0 x1 x2 x3 σ = some q) : wg_MG l E Sc yX1_countsOf cX1_countsOf 5 (some .int) rm_X1_countsOf [.ref x0, .int x1, .int x2, .int x3] σ (some q.1) q.2 :=
  wg_met [.ref x0, .int x1, .int x2, .int x3] (plainFor_of_name (by decide)) (Nat.le_of_ble_eq_true rfl) (g_X1_countsOf_e l E x0 x1 x2 x3 σ q hx0 h)
abbrev rm_X1_mothOf : Room := { frames := 3, cells := 0, slots := 0, locals := 72 }
def tb_X1_mothOf : List (Nat × Instr × Nat) := [(0, .aload_n 0, 1), (1, .invokevirtual 108, 3), (4, .aload_n 0, 1), (5, .iload_n 1, 1), (6, .invokevirtual 115, 3), (9, .aload_n 0, 1), (10, .getfield 42, 3), (13, .sipush 267, 3), (16, .iconst 1, 1), (17, .aload_n 0, 1), (18, .getfield 32, 3), (21, .getfield 102, 3), (24, .iload_n 1, 1), (25, .iaload, 1), (26, .bipush 9, 2), (28, .idiv, 1), (29, .iadd, 1), (30, .invokevirtual 124, 3), (33, .iconst 0, 1), (34, .bipush 99, 2), (36, .invokestatic 128, 3), (39, .ireturn, 1)]
theorem dt_X1_mothOf : wg_dc cX1_mothOf tb_X1_mothOf := by unfold wg_dc; decide +kernel
def f_X1_mothOf  (x0 : Nat) (x1 : Int32) (σ : wg_M) : Option (Int32 × wg_M) := wg_bd (f_X1_askNobody x0 σ) (fun _ s1 => wg_bd (f_X1_askWig x0 x1 s1) (fun _ s2 => wg_ga (wg_n Sc (wg_r Sc (wg_r Sc x0 2) 2)) (s2 (wg_r Sc (wg_r Sc x0 2) 2)) x1 (fun v3 => wg_dv v3 (9 : Int32) (fun v4 => wg_bd (f_X3_tell (wg_r Sc x0 4) (267 : Int32) ((1 : Int32) + v4) s2) (fun v5 s6 => wg_bd (f_X11_held v5 (0 : Int32) (99 : Int32) s6) (fun v7 s8 => some (v7, s8)))))))
set_option maxRecDepth 20000 in
theorem g_X1_mothOf_e (l : Launch) (E : wg_E)  (x0 : Nat) (x1 : Int32) (σ : wg_M) (z : Int32 × wg_M) (hx0 : wg_t Sc x0 = 3) (h : f_X1_mothOf  x0 x1 σ = some z) : wg_G l E Sc "WornWigs$Court" cX1_mothOf 2 (some .int) rm_X1_mothOf (some z.1) z.2 0 [some (.ref x0), some (.int x1)] [] σ := by
  refine wr_aload_n (wg_da dt_X1_mothOf 0 rfl) rfl ?_
  refine wr_callVv [] [] (wg_da dt_X1_mothOf 1 rfl) ⟨wq_3_169, wq_3_171, wq_p1_3⟩ hx0 ⟨rfl, by decide⟩ wy_X1_askNobody (fun q hq => m_X1_askNobody l E x0 hx0 _ q hq) rfl rfl (Nat.le_of_ble_eq_true rfl) ⟨rfl, rfl, by decide, by decide⟩ h (fun _ s1 h => ?_)
  refine wr_aload_n (wg_da dt_X1_mothOf 2 rfl) rfl ?_
  refine wr_iload_n (wg_da dt_X1_mothOf 3 rfl) rfl ?_
  refine wr_callVv [.int x1] [] (wg_da dt_X1_mothOf 4 rfl) ⟨wq_3_180, wq_3_182, wq_p1_5⟩ hx0 ⟨rfl, by decide⟩ wy_X1_askWig (fun q hq => m_X1_askWig l E x0 x1 hx0 _ q hq) rfl rfl (Nat.le_of_ble_eq_true rfl) ⟨rfl, rfl, by decide, by decide⟩ h (fun _ s2 h => ?_)
  refine wr_aload_n (wg_da dt_X1_mothOf 5 rfl) rfl ?_
  refine wr_getR wf_X1_42 (wg_da dt_X1_mothOf 6 rfl) hx0 ?_
  refine wr_sipush (267 : Int32) (wg_da dt_X1_mothOf 7 rfl) (by decide) ?_
  refine wr_iconst (1 : Int32) (wg_da dt_X1_mothOf 8 rfl) (by decide) ?_
  refine wr_aload_n (wg_da dt_X1_mothOf 9 rfl) rfl ?_
  refine wr_getR wf_X1_32 (wg_da dt_X1_mothOf 10 rfl) hx0 ?_
  refine wr_getR wf_X1_102 (wg_da dt_X1_mothOf 11 rfl) (wg_ty Sc_ok 1 2 11 hx0 rfl (by decide)).2 ?_
  refine wr_iload_n (wg_da dt_X1_mothOf 12 rfl) rfl ?_
  refine wr_iald (wg_da dt_X1_mothOf 13 rfl) (wg_ty Sc_ok 9 2 0 (wg_ty Sc_ok 1 2 11 hx0 rfl (by decide)).2 rfl (by decide)).2 h (fun v3 h => ?_)
  refine wr_bipush (9 : Int32) (wg_da dt_X1_mothOf 14 rfl) (by decide) ?_
  refine wr_idiv (wg_da dt_X1_mothOf 15 rfl) h (fun v4 h => ?_)
  refine wr_iadd (wg_da dt_X1_mothOf 16 rfl) ?_
  refine wr_callVi [.int (267 : Int32), .int ((1 : Int32) + v4)] [] (wg_da dt_X1_mothOf 17 rfl) ⟨wq_3_184, wq_3_185, wq_3_186⟩ (wg_ty Sc_ok 1 4 5 hx0 rfl (by decide)).2 ⟨rfl, by decide⟩ wy_X3_tell (fun q hq => m_X3_tell l E (wg_r Sc x0 4) (267 : Int32) ((1 : Int32) + v4) (wg_ty Sc_ok 1 4 5 hx0 rfl (by decide)).2 _ q hq) rfl rfl (Nat.le_of_ble_eq_true rfl) ⟨rfl, rfl, by decide, by decide⟩ h (fun v5 s6 h => ?_)
  refine wr_iconst (0 : Int32) (wg_da dt_X1_mothOf 18 rfl) (by decide) ?_
  refine wr_bipush (99 : Int32) (wg_da dt_X1_mothOf 19 rfl) (by decide) ?_
  refine wr_callNi [.int v5, .int (0 : Int32), .int (99 : Int32)] [] (wg_da dt_X1_mothOf 20 rfl) ⟨List.mem_of_getElem? (i := 12) rfl, wq_3_196⟩ wy_X11_held (fun q hq => m_X11_held l E v5 (0 : Int32) (99 : Int32)  _ q hq) rfl rfl (Nat.le_of_ble_eq_true rfl) ⟨rfl, rfl, by decide, by decide⟩ h (fun v7 s8 h => ?_)
  exact wr_iret (wg_da dt_X1_mothOf 21 rfl) h
theorem m_X1_mothOf (l : Launch) (E : wg_E) (x0 : Nat) (x1 : Int32) (hx0 : wg_t Sc x0 = 3) (σ : wg_M) (q : Int32 × wg_M) (h : f_X1_mothOf x0 x1 σ = some q) : wg_MG l E Sc yX1_mothOf cX1_mothOf 2 (some .int) rm_X1_mothOf [.ref x0, .int x1] σ (some q.1) q.2 :=
  wg_met [.ref x0, .int x1] (plainFor_of_name (by decide)) (Nat.le_of_ble_eq_true rfl) (g_X1_mothOf_e l E x0 x1 σ q hx0 h)
abbrev rm_X9_has : Room := { frames := 0, cells := 0, slots := 0, locals := 0 }
def tb_X9_has : List (Nat × Instr × Nat) := [(0, .iload_n 1, 1), (1, .ifCond .lt 15, 3), (4, .iload_n 1, 1), (5, .aload_n 0, 1), (6, .getfield 40, 3), (9, .if_icmp .ge 7, 3), (12, .iconst 1, 1), (13, .goto 4, 3), (16, .iconst 0, 1), (17, .ireturn, 1)]
theorem dt_X9_has : wg_dc cX9_has tb_X9_has := by unfold wg_dc; decide +kernel
def f_X9_has  (x0 : Nat) (x1 : Int32) (σ : wg_M) : Option (Int32 × wg_M) := if x1 < 0 then (some ((0 : Int32), σ)) else (if (σ x0 8) ≤ x1 then (some ((0 : Int32), σ)) else (some ((1 : Int32), σ)))
set_option maxRecDepth 20000 in
theorem g_X9_has_e (l : Launch) (E : wg_E)  (x0 : Nat) (x1 : Int32) (σ : wg_M) (z : Int32 × wg_M) (hx0 : wg_t Sc x0 = 11) (h : f_X9_has  x0 x1 σ = some z) : wg_G l E Sc "WornWigs$Wigs" cX9_has 2 (some .boolean) rm_X9_has (some z.1) z.2 0 [some (.ref x0), some (.int x1)] [] σ := by
  refine wr_iload_n (wg_da dt_X9_has 0 rfl) rfl ?_
  refine wr_if_lt 16 (wg_da dt_X9_has 1 rfl) (by decide) h (fun h => ?_) (fun h => ?_)
  · refine wr_iconst (0 : Int32) (wg_da dt_X9_has 8 rfl) (by decide) ?_
    exact wr_zret0 (wg_da dt_X9_has 9 rfl) h
  · refine wr_iload_n (wg_da dt_X9_has 2 rfl) rfl ?_
    refine wr_aload_n (wg_da dt_X9_has 3 rfl) rfl ?_
    refine wr_getI wf_X9_40 (wg_da dt_X9_has 4 rfl) hx0 ?_
    refine wr_icmp_ge 16 (wg_da dt_X9_has 5 rfl) (by decide) h (fun h => ?_) (fun h => ?_)
    · refine wr_iconst (0 : Int32) (wg_da dt_X9_has 8 rfl) (by decide) ?_
      exact wr_zret0 (wg_da dt_X9_has 9 rfl) h
    · refine wr_iconst (1 : Int32) (wg_da dt_X9_has 6 rfl) (by decide) ?_
      refine wr_goto 17 (wg_da dt_X9_has 7 rfl) (by decide) ?_
      exact wr_zret1 (wg_da dt_X9_has 9 rfl) h
theorem m_X9_has (l : Launch) (E : wg_E) (x0 : Nat) (x1 : Int32) (hx0 : wg_t Sc x0 = 11) (σ : wg_M) (q : Int32 × wg_M) (h : f_X9_has x0 x1 σ = some q) : wg_MG l E Sc yX9_has cX9_has 2 (some .boolean) rm_X9_has [.ref x0, .int x1] σ (some q.1) q.2 :=
  wg_met [.ref x0, .int x1] (plainFor_of_name (by decide)) (Nat.le_of_ble_eq_true rfl) (g_X9_has_e l E x0 x1 σ q hx0 h)
abbrev rm_X1_diesOf : Room := { frames := 3, cells := 0, slots := 0, locals := 72 }
def tb_X1_diesOf : List (Nat × Instr × Nat) := [(0, .aload_n 0, 1), (1, .invokevirtual 108, 3), (4, .aload_n 0, 1), (5, .iload_n 1, 1), (6, .invokevirtual 111, 3), (9, .aload_n 0, 1), (10, .getfield 32, 3), (13, .aload_n 0, 1), (14, .getfield 37, 3), (17, .getfield 132, 3), (20, .iload_n 1, 1), (21, .iaload, 1), (22, .invokevirtual 135, 3), (25, .ifCond .eq 16, 3), (28, .aload_n 0, 1), (29, .aload_n 0, 1), (30, .getfield 37, 3), (33, .getfield 132, 3), (36, .iload_n 1, 1), (37, .iaload, 1), (38, .invokevirtual 115, 3), (41, .aload_n 0, 1), (42, .getfield 42, 3), (45, .sipush 268, 3), (48, .iconst 0, 1), (49, .aload_n 0, 1), (50, .getfield 37, 3), (53, .getfield 83, 3), (56, .iload_n 1, 1), (57, .iaload, 1), (58, .bipush 60, 2), (60, .isub, 1), (61, .invokestatic 139, 3), (64, .bipush 9, 2), (66, .imul, 1), (67, .invokevirtual 124, 3), (70, .iconst 0, 1), (71, .sipush 1000, 3), (74, .invokestatic 128, 3), (77, .ireturn, 1)]
theorem dt_X1_diesOf : wg_dc cX1_diesOf tb_X1_diesOf := by unfold wg_dc; decide +kernel
def f_X1_diesOf_41  (x0 : Nat) (x1 : Int32) (σ : wg_M) : Option (Int32 × wg_M) := wg_ga (wg_n Sc (wg_r Sc (wg_r Sc x0 3) 0)) (σ (wg_r Sc (wg_r Sc x0 3) 0)) x1 (fun v1 => wg_bd (f_J9_max_7cf53 (0 : Int32) (v1 - (60 : Int32)) σ) (fun v2 s3 => wg_bd (f_X3_tell (wg_r Sc x0 4) (268 : Int32) (v2 * (9 : Int32)) s3) (fun v4 s5 => wg_bd (f_X11_held v4 (0 : Int32) (1000 : Int32) s5) (fun v6 s7 => some (v6, s7)))))
def f_X1_diesOf  (x0 : Nat) (x1 : Int32) (σ : wg_M) : Option (Int32 × wg_M) := wg_bd (f_X1_askNobody x0 σ) (fun _ s1 => wg_bd (f_X1_askJudge x0 x1 s1) (fun _ s2 => wg_ga (wg_n Sc (wg_r Sc (wg_r Sc x0 3) 2)) (s2 (wg_r Sc (wg_r Sc x0 3) 2)) x1 (fun v3 => wg_bd (f_X9_has (wg_r Sc x0 2) v3 s2) (fun v4 s5 => if v4 = 0 then (f_X1_diesOf_41  x0 x1 s5) else (wg_ga (wg_n Sc (wg_r Sc (wg_r Sc x0 3) 2)) (s5 (wg_r Sc (wg_r Sc x0 3) 2)) x1 (fun v6 => wg_bd (f_X1_askWig x0 v6 s5) (fun _ s7 => f_X1_diesOf_41  x0 x1 s7)))))))
set_option maxRecDepth 20000 in
theorem g_X1_diesOf_41 (l : Launch) (E : wg_E)  (x0 : Nat) (x1 : Int32) (σ : wg_M) (z : Int32 × wg_M) (hx0 : wg_t Sc x0 = 3) (h : f_X1_diesOf_41  x0 x1 σ = some z) : wg_G l E Sc "WornWigs$Court" cX1_diesOf 2 (some .int) rm_X1_diesOf (some z.1) z.2 41 [some (.ref x0), some (.int x1)] [] σ := by
  refine wr_aload_n (wg_da dt_X1_diesOf 21 rfl) rfl ?_
  refine wr_getR wf_X1_42 (wg_da dt_X1_diesOf 22 rfl) hx0 ?_
  refine wr_sipush (268 : Int32) (wg_da dt_X1_diesOf 23 rfl) (by decide) ?_
  refine wr_iconst (0 : Int32) (wg_da dt_X1_diesOf 24 rfl) (by decide) ?_
  refine wr_aload_n (wg_da dt_X1_diesOf 25 rfl) rfl ?_
  refine wr_getR wf_X1_37 (wg_da dt_X1_diesOf 26 rfl) hx0 ?_
  refine wr_getR wf_X1_83 (wg_da dt_X1_diesOf 27 rfl) (wg_ty Sc_ok 1 3 4 hx0 rfl (by decide)).2 ?_
  refine wr_iload_n (wg_da dt_X1_diesOf 28 rfl) rfl ?_
  refine wr_iald (wg_da dt_X1_diesOf 29 rfl) (wg_ty Sc_ok 2 0 0 (wg_ty Sc_ok 1 3 4 hx0 rfl (by decide)).2 rfl (by decide)).2 h (fun v1 h => ?_)
  refine wr_bipush (60 : Int32) (wg_da dt_X1_diesOf 30 rfl) (by decide) ?_
  refine wr_isub (wg_da dt_X1_diesOf 31 rfl) ?_
  refine wr_callSi [.int (0 : Int32), .int (v1 - (60 : Int32))] [.int (268 : Int32), .ref (wg_r Sc x0 4)] (wg_da dt_X1_diesOf 32 rfl) ⟨wq_4_42, wq_1_202⟩ wy_J9_max_7cf53 (fun q hq => m_J9_max_7cf53 l E (0 : Int32) (v1 - (60 : Int32))  _ q hq) rfl rfl (Nat.le_of_ble_eq_true rfl) ⟨rfl, rfl, by decide, by decide⟩ h (fun v2 s3 h => ?_)
  refine wr_bipush (9 : Int32) (wg_da dt_X1_diesOf 33 rfl) (by decide) ?_
  refine wr_imul (wg_da dt_X1_diesOf 34 rfl) ?_
  refine wr_callVi [.int (268 : Int32), .int (v2 * (9 : Int32))] [] (wg_da dt_X1_diesOf 35 rfl) ⟨wq_3_184, wq_3_185, wq_3_186⟩ (wg_ty Sc_ok 1 4 5 hx0 rfl (by decide)).2 ⟨rfl, by decide⟩ wy_X3_tell (fun q hq => m_X3_tell l E (wg_r Sc x0 4) (268 : Int32) (v2 * (9 : Int32)) (wg_ty Sc_ok 1 4 5 hx0 rfl (by decide)).2 _ q hq) rfl rfl (Nat.le_of_ble_eq_true rfl) ⟨rfl, rfl, by decide, by decide⟩ h (fun v4 s5 h => ?_)
  refine wr_iconst (0 : Int32) (wg_da dt_X1_diesOf 36 rfl) (by decide) ?_
  refine wr_sipush (1000 : Int32) (wg_da dt_X1_diesOf 37 rfl) (by decide) ?_
  refine wr_callNi [.int v4, .int (0 : Int32), .int (1000 : Int32)] [] (wg_da dt_X1_diesOf 38 rfl) ⟨List.mem_of_getElem? (i := 12) rfl, wq_3_196⟩ wy_X11_held (fun q hq => m_X11_held l E v4 (0 : Int32) (1000 : Int32)  _ q hq) rfl rfl (Nat.le_of_ble_eq_true rfl) ⟨rfl, rfl, by decide, by decide⟩ h (fun v6 s7 h => ?_)
  exact wr_iret (wg_da dt_X1_diesOf 39 rfl) h
set_option maxRecDepth 20000 in
theorem g_X1_diesOf_e (l : Launch) (E : wg_E)  (x0 : Nat) (x1 : Int32) (σ : wg_M) (z : Int32 × wg_M) (hx0 : wg_t Sc x0 = 3) (h : f_X1_diesOf  x0 x1 σ = some z) : wg_G l E Sc "WornWigs$Court" cX1_diesOf 2 (some .int) rm_X1_diesOf (some z.1) z.2 0 [some (.ref x0), some (.int x1)] [] σ := by
  refine wr_aload_n (wg_da dt_X1_diesOf 0 rfl) rfl ?_
  refine wr_callVv [] [] (wg_da dt_X1_diesOf 1 rfl) ⟨wq_3_169, wq_3_171, wq_p1_3⟩ hx0 ⟨rfl, by decide⟩ wy_X1_askNobody (fun q hq => m_X1_askNobody l E x0 hx0 _ q hq) rfl rfl (Nat.le_of_ble_eq_true rfl) ⟨rfl, rfl, by decide, by decide⟩ h (fun _ s1 h => ?_)
  refine wr_aload_n (wg_da dt_X1_diesOf 2 rfl) rfl ?_
  refine wr_iload_n (wg_da dt_X1_diesOf 3 rfl) rfl ?_
  refine wr_callVv [.int x1] [] (wg_da dt_X1_diesOf 4 rfl) ⟨wq_3_176, wq_3_178, wq_p1_4⟩ hx0 ⟨rfl, by decide⟩ wy_X1_askJudge (fun q hq => m_X1_askJudge l E x0 x1 hx0 _ q hq) rfl rfl (Nat.le_of_ble_eq_true rfl) ⟨rfl, rfl, by decide, by decide⟩ h (fun _ s2 h => ?_)
  refine wr_aload_n (wg_da dt_X1_diesOf 5 rfl) rfl ?_
  refine wr_getR wf_X1_32 (wg_da dt_X1_diesOf 6 rfl) hx0 ?_
  refine wr_aload_n (wg_da dt_X1_diesOf 7 rfl) rfl ?_
  refine wr_getR wf_X1_37 (wg_da dt_X1_diesOf 8 rfl) hx0 ?_
  refine wr_getR wf_X1_132 (wg_da dt_X1_diesOf 9 rfl) (wg_ty Sc_ok 1 3 4 hx0 rfl (by decide)).2 ?_
  refine wr_iload_n (wg_da dt_X1_diesOf 10 rfl) rfl ?_
  refine wr_iald (wg_da dt_X1_diesOf 11 rfl) (wg_ty Sc_ok 2 2 0 (wg_ty Sc_ok 1 3 4 hx0 rfl (by decide)).2 rfl (by decide)).2 h (fun v3 h => ?_)
  refine wr_callVi [.int v3] [] (wg_da dt_X1_diesOf 12 rfl) ⟨wq_3_164, wq_3_76, wq_3_77⟩ (wg_ty Sc_ok 1 2 11 hx0 rfl (by decide)).2 ⟨rfl, by decide⟩ wy_X9_has (fun q hq => m_X9_has l E (wg_r Sc x0 2) v3 (wg_ty Sc_ok 1 2 11 hx0 rfl (by decide)).2 _ q hq) rfl rfl (Nat.le_of_ble_eq_true rfl) ⟨rfl, rfl, by decide, by decide⟩ h (fun v4 s5 h => ?_)
  refine wr_if_eq 41 (wg_da dt_X1_diesOf 13 rfl) (by decide) h (fun h => ?_) (fun h => ?_)
  · exact wr_wk [true, true] (g_X1_diesOf_41 l E  x0 x1 s5 _ hx0  h)
  · refine wr_aload_n (wg_da dt_X1_diesOf 14 rfl) rfl ?_
    refine wr_aload_n (wg_da dt_X1_diesOf 15 rfl) rfl ?_
    refine wr_getR wf_X1_37 (wg_da dt_X1_diesOf 16 rfl) hx0 ?_
    refine wr_getR wf_X1_132 (wg_da dt_X1_diesOf 17 rfl) (wg_ty Sc_ok 1 3 4 hx0 rfl (by decide)).2 ?_
    refine wr_iload_n (wg_da dt_X1_diesOf 18 rfl) rfl ?_
    refine wr_iald (wg_da dt_X1_diesOf 19 rfl) (wg_ty Sc_ok 2 2 0 (wg_ty Sc_ok 1 3 4 hx0 rfl (by decide)).2 rfl (by decide)).2 h (fun v6 h => ?_)
    refine wr_callVv [.int v6] [] (wg_da dt_X1_diesOf 20 rfl) ⟨wq_3_180, wq_3_182, wq_p1_5⟩ hx0 ⟨rfl, by decide⟩ wy_X1_askWig (fun q hq => m_X1_askWig l E x0 v6 hx0 _ q hq) rfl rfl (Nat.le_of_ble_eq_true rfl) ⟨rfl, rfl, by decide, by decide⟩ h (fun _ s7 h => ?_)
    exact wr_wk [true, true] (g_X1_diesOf_41 l E  x0 x1 s7 _ hx0  h)
theorem m_X1_diesOf (l : Launch) (E : wg_E) (x0 : Nat) (x1 : Int32) (hx0 : wg_t Sc x0 = 3) (σ : wg_M) (q : Int32 × wg_M) (h : f_X1_diesOf x0 x1 σ = some q) : wg_MG l E Sc yX1_diesOf cX1_diesOf 2 (some .int) rm_X1_diesOf [.ref x0, .int x1] σ (some q.1) q.2 :=
  wg_met [.ref x0, .int x1] (plainFor_of_name (by decide)) (Nat.le_of_ble_eq_true rfl) (g_X1_diesOf_e l E x0 x1 σ q hx0 h)
abbrev rm_J9_floorDiv_7cf53 : Room := { frames := 0, cells := 0, slots := 0, locals := 0 }
def tb_J9_floorDiv_7cf53 : List (Nat × Instr × Nat) := [(0, .iload_n 0, 1), (1, .iload_n 1, 1), (2, .idiv, 1), (3, .istore_n 2, 1), (4, .iload_n 0, 1), (5, .iload_n 1, 1), (6, .ixor, 1), (7, .ifCond .ge 14, 3), (10, .iload_n 2, 1), (11, .iload_n 1, 1), (12, .imul, 1), (13, .iload_n 0, 1), (14, .if_icmp .eq 7, 3), (17, .iload_n 2, 1), (18, .iconst 1, 1), (19, .isub, 1), (20, .ireturn, 1), (21, .iload_n 2, 1), (22, .ireturn, 1)]
theorem dt_J9_floorDiv_7cf53 : wg_dc cJ9_floorDiv_7cf53 tb_J9_floorDiv_7cf53 := by unfold wg_dc; decide +kernel
def f_J9_floorDiv_7cf53  (x0 : Int32) (x1 : Int32) (σ : wg_M) : Option (Int32 × wg_M) := wg_dv x0 x1 (fun v1 => if 0 ≤ (x0 ^^^ x1) then (some (v1, σ)) else (if (v1 * x1) = x0 then (some (v1, σ)) else (some (v1 - (1 : Int32), σ))))
set_option maxRecDepth 20000 in
theorem g_J9_floorDiv_7cf53_e (l : Launch) (E : wg_E)  (x0 : Int32) (x1 : Int32) (σ : wg_M) (z : Int32 × wg_M)  (h : f_J9_floorDiv_7cf53  x0 x1 σ = some z) : wg_G l E Sc "java/lang/Math" cJ9_floorDiv_7cf53 3 (some .int) rm_J9_floorDiv_7cf53 (some z.1) z.2 0 [some (.int x0), some (.int x1), none] [] σ := by
  refine wr_iload_n (wg_da dt_J9_floorDiv_7cf53 0 rfl) rfl ?_
  refine wr_iload_n (wg_da dt_J9_floorDiv_7cf53 1 rfl) rfl ?_
  refine wr_idiv (wg_da dt_J9_floorDiv_7cf53 2 rfl) h (fun v1 h => ?_)
  refine wr_istore_n (wg_da dt_J9_floorDiv_7cf53 3 rfl) (by decide) ?_
  refine wr_iload_n (wg_da dt_J9_floorDiv_7cf53 4 rfl) rfl ?_
  refine wr_iload_n (wg_da dt_J9_floorDiv_7cf53 5 rfl) rfl ?_
  refine wr_ixor (wg_da dt_J9_floorDiv_7cf53 6 rfl) ?_
  refine wr_if_ge 21 (wg_da dt_J9_floorDiv_7cf53 7 rfl) (by decide) h (fun h => ?_) (fun h => ?_)
  · refine wr_iload_n (wg_da dt_J9_floorDiv_7cf53 17 rfl) rfl ?_
    exact wr_iret (wg_da dt_J9_floorDiv_7cf53 18 rfl) h
  · refine wr_iload_n (wg_da dt_J9_floorDiv_7cf53 8 rfl) rfl ?_
    refine wr_iload_n (wg_da dt_J9_floorDiv_7cf53 9 rfl) rfl ?_
    refine wr_imul (wg_da dt_J9_floorDiv_7cf53 10 rfl) ?_
    refine wr_iload_n (wg_da dt_J9_floorDiv_7cf53 11 rfl) rfl ?_
    refine wr_icmp_eq 21 (wg_da dt_J9_floorDiv_7cf53 12 rfl) (by decide) h (fun h => ?_) (fun h => ?_)
    · refine wr_iload_n (wg_da dt_J9_floorDiv_7cf53 17 rfl) rfl ?_
      exact wr_iret (wg_da dt_J9_floorDiv_7cf53 18 rfl) h
    · refine wr_iload_n (wg_da dt_J9_floorDiv_7cf53 13 rfl) rfl ?_
      refine wr_iconst (1 : Int32) (wg_da dt_J9_floorDiv_7cf53 14 rfl) (by decide) ?_
      refine wr_isub (wg_da dt_J9_floorDiv_7cf53 15 rfl) ?_
      exact wr_iret (wg_da dt_J9_floorDiv_7cf53 16 rfl) h
theorem m_J9_floorDiv_7cf53 (l : Launch) (E : wg_E) (x0 : Int32) (x1 : Int32)  (σ : wg_M) (q : Int32 × wg_M) (h : f_J9_floorDiv_7cf53 x0 x1 σ = some q) : wg_MG l E Sc yJ9_floorDiv_7cf53 cJ9_floorDiv_7cf53 3 (some .int) rm_J9_floorDiv_7cf53 [.int x0, .int x1] σ (some q.1) q.2 :=
  wg_met [.int x0, .int x1] (by decide +kernel) (Nat.le_of_ble_eq_true rfl) (g_J9_floorDiv_7cf53_e l E x0 x1 σ q  h)
abbrev rm_X1_verdictOf : Room := { frames := 4, cells := 0, slots := 0, locals := 96 }
def tb_X1_verdictOf : List (Nat × Instr × Nat) := [(0, .aload_n 0, 1), (1, .getfield 27, 3), (4, .getfield 144, 3), (7, .iload_n 1, 1), (8, .iaload, 1), (9, .iconst 3, 1), (10, .aload_n 0, 1), (11, .getfield 37, 3), (14, .getfield 88, 3), (17, .iload_n 2, 1), (18, .iaload, 1), (19, .imul, 1), (20, .iadd, 1), (21, .istore_n 3, 1), (22, .aload_n 0, 1), (23, .getfield 37, 3), (26, .getfield 132, 3), (29, .iload_n 2, 1), (30, .iaload, 1), (31, .istore 4, 2), (33, .aload_n 0, 1), (34, .getfield 32, 3), (37, .iload 4, 2), (39, .invokevirtual 135, 3), (42, .ifCond .eq 16, 3), (45, .aload_n 0, 1), (46, .getfield 32, 3), (49, .getfield 147, 3), (52, .iload 4, 2), (54, .iaload, 1), (55, .goto 4, 3), (58, .iconst 0, 1), (59, .istore 5, 2), (61, .iconst 0, 1), (62, .istore 6, 2), (64, .iload 6, 2), (66, .iload 5, 2), (68, .if_icmp .ge 69, 3), (71, .iload 4, 2), (73, .bipush 8, 2), (75, .imul, 1), (76, .iload 6, 2), (78, .iadd, 1), (79, .istore 7, 2), (81, .aload_n 0, 1), (82, .getfield 32, 3), (85, .getfield 118, 3), (88, .iload 7, 2), (90, .iaload, 1), (91, .aload_n 0, 1), (92, .getfield 27, 3), (95, .getfield 150, 3), (98, .iload_n 1, 1), (99, .iaload, 1), (100, .if_icmp .ne 31, 3), (103, .iload_n 3, 1), (104, .aload_n 0, 1), (105, .getfield 32, 3), (108, .getfield 151, 3), (111, .iload 7, 2), (113, .iaload, 1), (114, .aload_n 0, 1), (115, .iload 4, 2), (117, .iload 6, 2), (119, .iload_n 2, 1), (120, .invokevirtual 154, 3), (123, .imul, 1), (124, .bipush 9, 2), (126, .invokestatic 157, 3), (129, .iadd, 1), (130, .istore_n 3, 1), (131, .iinc 6 1, 3), (134, .goto (-70), 3), (137, .iload_n 3, 1), (138, .sipush (-999), 3), (141, .sipush 999, 3), (144, .invokestatic 128, 3), (147, .ireturn, 1)]
theorem dt_X1_verdictOf : wg_dc cX1_verdictOf tb_X1_verdictOf := by unfold wg_dc; decide +kernel
def f_X1_verdictOf_131 (k64 : Nat → Int32 → Int32 → Int32 → Int32 → Int32 → Int32 → wg_M → Option (Int32 × wg_M)) (x0 : Nat) (x1 : Int32) (x2 : Int32) (x3 : Int32) (x4 : Int32) (x5 : Int32) (x6 : Int32) (σ : wg_M) : Option (Int32 × wg_M) := wg_let (x6 + (1 : Int32)) (fun v1 => k64 x0 x1 x2 x3 x4 x5 v1 σ)
def f_X1_verdictOf_64  : Nat → Nat → Int32 → Int32 → Int32 → Int32 → Int32 → Int32 → wg_M → Option (Int32 × wg_M)
  | 0, _, _, _, _, _, _, _, _ => none
  | n + 1, x0, x1, x2, x3, x4, x5, x6, σ => if x5 ≤ x6 then (wg_bd (f_X11_held x3 (-999 : Int32) (999 : Int32) σ) (fun v1 s2 => some (v1, s2))) else (wg_let ((x4 * (8 : Int32)) + x6) (fun v3 => wg_ga (wg_n Sc (wg_r Sc (wg_r Sc x0 2) 5)) (σ (wg_r Sc (wg_r Sc x0 2) 5)) v3 (fun v4 => wg_ga (wg_n Sc (wg_r Sc (wg_r Sc x0 1) 2)) (σ (wg_r Sc (wg_r Sc x0 1) 2)) x1 (fun v5 => if v4 = v5 then (wg_ga (wg_n Sc (wg_r Sc (wg_r Sc x0 2) 6)) (σ (wg_r Sc (wg_r Sc x0 2) 6)) v3 (fun v6 => wg_bd (f_X1_countsOf x0 x4 x6 x2 σ) (fun v7 s8 => wg_bd (f_J9_floorDiv_7cf53 (v6 * v7) (9 : Int32) s8) (fun v9 s10 => wg_let (x3 + v9) (fun v11 => f_X1_verdictOf_131 (f_X1_verdictOf_64  n) x0 x1 x2 v11 x4 x5 x6 s10))))) else (f_X1_verdictOf_131 (f_X1_verdictOf_64  n) x0 x1 x2 x3 x4 x5 x6 σ)))))
def f_X1_verdictOf_59  (x0 : Nat) (x1 : Int32) (x2 : Int32) (x3 : Int32) (x4 : Int32) (t0 : Int32) (σ : wg_M) : Option (Int32 × wg_M) := f_X1_verdictOf_64  wg_N x0 x1 x2 x3 x4 t0 (0 : Int32) σ
def f_X1_verdictOf  (x0 : Nat) (x1 : Int32) (x2 : Int32) (σ : wg_M) : Option (Int32 × wg_M) := wg_ga (wg_n Sc (wg_r Sc (wg_r Sc x0 1) 3)) (σ (wg_r Sc (wg_r Sc x0 1) 3)) x1 (fun v1 => wg_ga (wg_n Sc (wg_r Sc (wg_r Sc x0 3) 1)) (σ (wg_r Sc (wg_r Sc x0 3) 1)) x2 (fun v2 => wg_let (v1 + ((3 : Int32) * v2)) (fun v3 => wg_ga (wg_n Sc (wg_r Sc (wg_r Sc x0 3) 2)) (σ (wg_r Sc (wg_r Sc x0 3) 2)) x2 (fun v4 => wg_bd (f_X9_has (wg_r Sc x0 2) v4 σ) (fun v5 s6 => if v5 = 0 then (f_X1_verdictOf_59  x0 x1 x2 v3 v4 (0 : Int32) s6) else (wg_ga (wg_n Sc (wg_r Sc (wg_r Sc x0 2) 4)) (s6 (wg_r Sc (wg_r Sc x0 2) 4)) v4 (fun v7 => f_X1_verdictOf_59  x0 x1 x2 v3 v4 v7 s6)))))))
set_option maxRecDepth 20000 in
theorem g_X1_verdictOf_131 (l : Launch) (E : wg_E) (k64 : Nat → Int32 → Int32 → Int32 → Int32 → Int32 → Int32 → wg_M → Option (Int32 × wg_M)) (x0 : Nat) (x1 : Int32) (x2 : Int32) (x3 : Int32) (x4 : Int32) (x5 : Int32) (x6 : Int32) (σ : wg_M) (z : Int32 × wg_M) (hx0 : wg_t Sc x0 = 3) (hk64 : ∀ (x0 : Nat) (x1 : Int32) (x2 : Int32) (x3 : Int32) (x4 : Int32) (x5 : Int32) (x6 : Int32) (σ : wg_M), wg_t Sc x0 = 3 → k64 x0 x1 x2 x3 x4 x5 x6 σ = some z → wg_G l E Sc "WornWigs$Court" cX1_verdictOf 8 (some .int) rm_X1_verdictOf (some z.1) z.2 64 [some (.ref x0), some (.int x1), some (.int x2), some (.int x3), some (.int x4), some (.int x5), some (.int x6), none] [] σ) (h : f_X1_verdictOf_131 k64 x0 x1 x2 x3 x4 x5 x6 σ = some z) : wg_G l E Sc "WornWigs$Court" cX1_verdictOf 8 (some .int) rm_X1_verdictOf (some z.1) z.2 131 [some (.ref x0), some (.int x1), some (.int x2), some (.int x3), some (.int x4), some (.int x5), some (.int x6), none] [] σ := by
  refine wr_iinc (c0 := (1 : Int32)) (wg_da dt_X1_verdictOf 71 rfl) rfl (by decide) (by decide) h (fun v1 h => ?_)
  refine wr_goto 64 (wg_da dt_X1_verdictOf 72 rfl) (by decide) ?_
  exact wr_wk [true, true, true, true, true, true, true, false] (hk64 x0 x1 x2 x3 x4 x5 v1 σ hx0 h)
set_option maxRecDepth 20000 in
theorem g_X1_verdictOf_64 (l : Launch) (E : wg_E)  (z : Int32 × wg_M) : ∀ (n : Nat) (x0 : Nat) (x1 : Int32) (x2 : Int32) (x3 : Int32) (x4 : Int32) (x5 : Int32) (x6 : Int32) (σ : wg_M) (hx0 : wg_t Sc x0 = 3) (h : f_X1_verdictOf_64  n x0 x1 x2 x3 x4 x5 x6 σ = some z), wg_G l E Sc "WornWigs$Court" cX1_verdictOf 8 (some .int) rm_X1_verdictOf (some z.1) z.2 64 [some (.ref x0), some (.int x1), some (.int x2), some (.int x3), some (.int x4), some (.int x5), some (.int x6), none] [] σ := by
  intro n
  induction n with
  | zero => intro x0 x1 x2 x3 x4 x5 x6 σ hx0 h; cases h
  | succ n ih =>
    intro x0 x1 x2 x3 x4 x5 x6 σ hx0 h
    refine wr_iload (wg_da dt_X1_verdictOf 35 rfl) rfl ?_
    refine wr_iload (wg_da dt_X1_verdictOf 36 rfl) rfl ?_
    refine wr_icmp_ge 137 (wg_da dt_X1_verdictOf 37 rfl) (by decide) h (fun h => ?_) (fun h => ?_)
    · refine wr_iload_n (wg_da dt_X1_verdictOf 73 rfl) rfl ?_
      refine wr_sipush (-999 : Int32) (wg_da dt_X1_verdictOf 74 rfl) (by decide) ?_
      refine wr_sipush (999 : Int32) (wg_da dt_X1_verdictOf 75 rfl) (by decide) ?_
      refine wr_callNi [.int x3, .int (-999 : Int32), .int (999 : Int32)] [] (wg_da dt_X1_verdictOf 76 rfl) ⟨List.mem_of_getElem? (i := 12) rfl, wq_3_196⟩ wy_X11_held (fun q hq => m_X11_held l E x3 (-999 : Int32) (999 : Int32)  _ q hq) rfl rfl (Nat.le_of_ble_eq_true rfl) ⟨rfl, rfl, by decide, by decide⟩ h (fun v1 s2 h => ?_)
      exact wr_iret (wg_da dt_X1_verdictOf 77 rfl) h
    · refine wr_iload (wg_da dt_X1_verdictOf 38 rfl) rfl ?_
      refine wr_bipush (8 : Int32) (wg_da dt_X1_verdictOf 39 rfl) (by decide) ?_
      refine wr_imul (wg_da dt_X1_verdictOf 40 rfl) ?_
      refine wr_iload (wg_da dt_X1_verdictOf 41 rfl) rfl ?_
      refine wr_iadd (wg_da dt_X1_verdictOf 42 rfl) ?_
      refine wr_let h (fun v3 h => ?_)
      refine wr_istore (wg_da dt_X1_verdictOf 43 rfl) (by decide) ?_
      refine wr_aload_n (wg_da dt_X1_verdictOf 44 rfl) rfl ?_
      refine wr_getR wf_X1_32 (wg_da dt_X1_verdictOf 45 rfl) hx0 ?_
      refine wr_getR wf_X1_118 (wg_da dt_X1_verdictOf 46 rfl) (wg_ty Sc_ok 1 2 11 hx0 rfl (by decide)).2 ?_
      refine wr_iload (wg_da dt_X1_verdictOf 47 rfl) rfl ?_
      refine wr_iald (wg_da dt_X1_verdictOf 48 rfl) (wg_ty Sc_ok 9 5 0 (wg_ty Sc_ok 1 2 11 hx0 rfl (by decide)).2 rfl (by decide)).2 h (fun v4 h => ?_)
      refine wr_aload_n (wg_da dt_X1_verdictOf 49 rfl) rfl ?_
      refine wr_getR wf_X1_27 (wg_da dt_X1_verdictOf 50 rfl) hx0 ?_
      refine wr_getR wf_X1_150 (wg_da dt_X1_verdictOf 51 rfl) (wg_ty Sc_ok 1 1 2 hx0 rfl (by decide)).2 ?_
      refine wr_iload_n (wg_da dt_X1_verdictOf 52 rfl) rfl ?_
      refine wr_iald (wg_da dt_X1_verdictOf 53 rfl) (wg_ty Sc_ok 0 2 0 (wg_ty Sc_ok 1 1 2 hx0 rfl (by decide)).2 rfl (by decide)).2 h (fun v5 h => ?_)
      refine wr_icmp_ne 131 (wg_da dt_X1_verdictOf 54 rfl) (by decide) h (fun h => ?_) (fun h => ?_)
      · refine wr_iload_n (wg_da dt_X1_verdictOf 55 rfl) rfl ?_
        refine wr_aload_n (wg_da dt_X1_verdictOf 56 rfl) rfl ?_
        refine wr_getR wf_X1_32 (wg_da dt_X1_verdictOf 57 rfl) hx0 ?_
        refine wr_getR wf_X1_151 (wg_da dt_X1_verdictOf 58 rfl) (wg_ty Sc_ok 1 2 11 hx0 rfl (by decide)).2 ?_
        refine wr_iload (wg_da dt_X1_verdictOf 59 rfl) rfl ?_
        refine wr_iald (wg_da dt_X1_verdictOf 60 rfl) (wg_ty Sc_ok 9 6 0 (wg_ty Sc_ok 1 2 11 hx0 rfl (by decide)).2 rfl (by decide)).2 h (fun v6 h => ?_)
        refine wr_aload_n (wg_da dt_X1_verdictOf 61 rfl) rfl ?_
        refine wr_iload (wg_da dt_X1_verdictOf 62 rfl) rfl ?_
        refine wr_iload (wg_da dt_X1_verdictOf 63 rfl) rfl ?_
        refine wr_iload_n (wg_da dt_X1_verdictOf 64 rfl) rfl ?_
        refine wr_callVi [.int x4, .int x6, .int x2] [.int v6, .int x3] (wg_da dt_X1_verdictOf 65 rfl) ⟨wq_3_165, wq_3_166, wq_3_167⟩ hx0 ⟨rfl, by decide⟩ wy_X1_countsOf (fun q hq => m_X1_countsOf l E x0 x4 x6 x2 hx0 _ q hq) rfl rfl (Nat.le_of_ble_eq_true rfl) ⟨rfl, rfl, by decide, by decide⟩ h (fun v7 s8 h => ?_)
        refine wr_imul (wg_da dt_X1_verdictOf 66 rfl) ?_
        refine wr_bipush (9 : Int32) (wg_da dt_X1_verdictOf 67 rfl) (by decide) ?_
        refine wr_callSi [.int (v6 * v7), .int (9 : Int32)] [.int x3] (wg_da dt_X1_verdictOf 68 rfl) ⟨wq_3_199, wq_3_200⟩ wy_J9_floorDiv_7cf53 (fun q hq => m_J9_floorDiv_7cf53 l E (v6 * v7) (9 : Int32)  _ q hq) rfl rfl (Nat.le_of_ble_eq_true rfl) ⟨rfl, rfl, by decide, by decide⟩ h (fun v9 s10 h => ?_)
        refine wr_iadd (wg_da dt_X1_verdictOf 69 rfl) ?_
        refine wr_let h (fun v11 h => ?_)
        refine wr_istore_n (wg_da dt_X1_verdictOf 70 rfl) (by decide) ?_
        exact wr_wk [true, true, true, true, true, true, true, false] (g_X1_verdictOf_131 l E (f_X1_verdictOf_64  n) x0 x1 x2 v11 x4 x5 x6 s10 _ hx0 (fun x0 x1 x2 x3 x4 x5 x6 σ hx0 h => ih x0 x1 x2 x3 x4 x5 x6 σ hx0 h) h)
      · exact wr_wk [true, true, true, true, true, true, true, false] (g_X1_verdictOf_131 l E (f_X1_verdictOf_64  n) x0 x1 x2 x3 x4 x5 x6 σ _ hx0 (fun x0 x1 x2 x3 x4 x5 x6 σ hx0 h => ih x0 x1 x2 x3 x4 x5 x6 σ hx0 h) h)
set_option maxRecDepth 20000 in
theorem g_X1_verdictOf_59 (l : Launch) (E : wg_E)  (x0 : Nat) (x1 : Int32) (x2 : Int32) (x3 : Int32) (x4 : Int32) (t0 : Int32) (σ : wg_M) (z : Int32 × wg_M) (hx0 : wg_t Sc x0 = 3) (h : f_X1_verdictOf_59  x0 x1 x2 x3 x4 t0 σ = some z) : wg_G l E Sc "WornWigs$Court" cX1_verdictOf 8 (some .int) rm_X1_verdictOf (some z.1) z.2 59 [some (.ref x0), some (.int x1), some (.int x2), some (.int x3), some (.int x4), none, none, none] [.int t0] σ := by
  refine wr_istore (wg_da dt_X1_verdictOf 32 rfl) (by decide) ?_
  refine wr_iconst (0 : Int32) (wg_da dt_X1_verdictOf 33 rfl) (by decide) ?_
  refine wr_istore (wg_da dt_X1_verdictOf 34 rfl) (by decide) ?_
  exact wr_wk [true, true, true, true, true, true, true, false] (g_X1_verdictOf_64 l E  _  wg_N x0 x1 x2 x3 x4 t0 (0 : Int32) σ hx0 h)
set_option maxRecDepth 20000 in
theorem g_X1_verdictOf_e (l : Launch) (E : wg_E)  (x0 : Nat) (x1 : Int32) (x2 : Int32) (σ : wg_M) (z : Int32 × wg_M) (hx0 : wg_t Sc x0 = 3) (h : f_X1_verdictOf  x0 x1 x2 σ = some z) : wg_G l E Sc "WornWigs$Court" cX1_verdictOf 8 (some .int) rm_X1_verdictOf (some z.1) z.2 0 [some (.ref x0), some (.int x1), some (.int x2), none, none, none, none, none] [] σ := by
  refine wr_aload_n (wg_da dt_X1_verdictOf 0 rfl) rfl ?_
  refine wr_getR wf_X1_27 (wg_da dt_X1_verdictOf 1 rfl) hx0 ?_
  refine wr_getR wf_X1_144 (wg_da dt_X1_verdictOf 2 rfl) (wg_ty Sc_ok 1 1 2 hx0 rfl (by decide)).2 ?_
  refine wr_iload_n (wg_da dt_X1_verdictOf 3 rfl) rfl ?_
  refine wr_iald (wg_da dt_X1_verdictOf 4 rfl) (wg_ty Sc_ok 0 3 0 (wg_ty Sc_ok 1 1 2 hx0 rfl (by decide)).2 rfl (by decide)).2 h (fun v1 h => ?_)
  refine wr_iconst (3 : Int32) (wg_da dt_X1_verdictOf 5 rfl) (by decide) ?_
  refine wr_aload_n (wg_da dt_X1_verdictOf 6 rfl) rfl ?_
  refine wr_getR wf_X1_37 (wg_da dt_X1_verdictOf 7 rfl) hx0 ?_
  refine wr_getR wf_X1_88 (wg_da dt_X1_verdictOf 8 rfl) (wg_ty Sc_ok 1 3 4 hx0 rfl (by decide)).2 ?_
  refine wr_iload_n (wg_da dt_X1_verdictOf 9 rfl) rfl ?_
  refine wr_iald (wg_da dt_X1_verdictOf 10 rfl) (wg_ty Sc_ok 2 1 0 (wg_ty Sc_ok 1 3 4 hx0 rfl (by decide)).2 rfl (by decide)).2 h (fun v2 h => ?_)
  refine wr_imul (wg_da dt_X1_verdictOf 11 rfl) ?_
  refine wr_iadd (wg_da dt_X1_verdictOf 12 rfl) ?_
  refine wr_let h (fun v3 h => ?_)
  refine wr_istore_n (wg_da dt_X1_verdictOf 13 rfl) (by decide) ?_
  refine wr_aload_n (wg_da dt_X1_verdictOf 14 rfl) rfl ?_
  refine wr_getR wf_X1_37 (wg_da dt_X1_verdictOf 15 rfl) hx0 ?_
  refine wr_getR wf_X1_132 (wg_da dt_X1_verdictOf 16 rfl) (wg_ty Sc_ok 1 3 4 hx0 rfl (by decide)).2 ?_
  refine wr_iload_n (wg_da dt_X1_verdictOf 17 rfl) rfl ?_
  refine wr_iald (wg_da dt_X1_verdictOf 18 rfl) (wg_ty Sc_ok 2 2 0 (wg_ty Sc_ok 1 3 4 hx0 rfl (by decide)).2 rfl (by decide)).2 h (fun v4 h => ?_)
  refine wr_istore (wg_da dt_X1_verdictOf 19 rfl) (by decide) ?_
  refine wr_aload_n (wg_da dt_X1_verdictOf 20 rfl) rfl ?_
  refine wr_getR wf_X1_32 (wg_da dt_X1_verdictOf 21 rfl) hx0 ?_
  refine wr_iload (wg_da dt_X1_verdictOf 22 rfl) rfl ?_
  refine wr_callVi [.int v4] [] (wg_da dt_X1_verdictOf 23 rfl) ⟨wq_3_164, wq_3_76, wq_3_77⟩ (wg_ty Sc_ok 1 2 11 hx0 rfl (by decide)).2 ⟨rfl, by decide⟩ wy_X9_has (fun q hq => m_X9_has l E (wg_r Sc x0 2) v4 (wg_ty Sc_ok 1 2 11 hx0 rfl (by decide)).2 _ q hq) rfl rfl (Nat.le_of_ble_eq_true rfl) ⟨rfl, rfl, by decide, by decide⟩ h (fun v5 s6 h => ?_)
  refine wr_if_eq 58 (wg_da dt_X1_verdictOf 24 rfl) (by decide) h (fun h => ?_) (fun h => ?_)
  · refine wr_iconst (0 : Int32) (wg_da dt_X1_verdictOf 31 rfl) (by decide) ?_
    exact wr_wk [true, true, true, true, true, false, false, false] (g_X1_verdictOf_59 l E  x0 x1 x2 v3 v4 (0 : Int32) s6 _ hx0  h)
  · refine wr_aload_n (wg_da dt_X1_verdictOf 25 rfl) rfl ?_
    refine wr_getR wf_X1_32 (wg_da dt_X1_verdictOf 26 rfl) hx0 ?_
    refine wr_getR wf_X1_147 (wg_da dt_X1_verdictOf 27 rfl) (wg_ty Sc_ok 1 2 11 hx0 rfl (by decide)).2 ?_
    refine wr_iload (wg_da dt_X1_verdictOf 28 rfl) rfl ?_
    refine wr_iald (wg_da dt_X1_verdictOf 29 rfl) (wg_ty Sc_ok 9 4 0 (wg_ty Sc_ok 1 2 11 hx0 rfl (by decide)).2 rfl (by decide)).2 h (fun v7 h => ?_)
    refine wr_goto 59 (wg_da dt_X1_verdictOf 30 rfl) (by decide) ?_
    exact wr_wk [true, true, true, true, true, false, false, false] (g_X1_verdictOf_59 l E  x0 x1 x2 v3 v4 v7 s6 _ hx0  h)
theorem m_X1_verdictOf (l : Launch) (E : wg_E) (x0 : Nat) (x1 : Int32) (x2 : Int32) (hx0 : wg_t Sc x0 = 3) (σ : wg_M) (q : Int32 × wg_M) (h : f_X1_verdictOf x0 x1 x2 σ = some q) : wg_MG l E Sc yX1_verdictOf cX1_verdictOf 8 (some .int) rm_X1_verdictOf [.ref x0, .int x1, .int x2] σ (some q.1) q.2 :=
  wg_met [.ref x0, .int x1, .int x2] (plainFor_of_name (by decide)) (Nat.le_of_ble_eq_true rfl) (g_X1_verdictOf_e l E x0 x1 x2 σ q hx0 h)
abbrev rm_X2_has : Room := { frames := 0, cells := 0, slots := 0, locals := 0 }
def tb_X2_has : List (Nat × Instr × Nat) := [(0, .iload_n 1, 1), (1, .ifCond .lt 15, 3), (4, .iload_n 1, 1), (5, .aload_n 0, 1), (6, .getfield 31, 3), (9, .if_icmp .ge 7, 3), (12, .iconst 1, 1), (13, .goto 4, 3), (16, .iconst 0, 1), (17, .ireturn, 1)]
theorem dt_X2_has : wg_dc cX2_has tb_X2_has := by unfold wg_dc; decide +kernel
def f_X2_has  (x0 : Nat) (x1 : Int32) (σ : wg_M) : Option (Int32 × wg_M) := if x1 < 0 then (some ((0 : Int32), σ)) else (if (σ x0 5) ≤ x1 then (some ((0 : Int32), σ)) else (some ((1 : Int32), σ)))
set_option maxRecDepth 20000 in
theorem g_X2_has_e (l : Launch) (E : wg_E)  (x0 : Nat) (x1 : Int32) (σ : wg_M) (z : Int32 × wg_M) (hx0 : wg_t Sc x0 = 4) (h : f_X2_has  x0 x1 σ = some z) : wg_G l E Sc "WornWigs$Judges" cX2_has 2 (some .boolean) rm_X2_has (some z.1) z.2 0 [some (.ref x0), some (.int x1)] [] σ := by
  refine wr_iload_n (wg_da dt_X2_has 0 rfl) rfl ?_
  refine wr_if_lt 16 (wg_da dt_X2_has 1 rfl) (by decide) h (fun h => ?_) (fun h => ?_)
  · refine wr_iconst (0 : Int32) (wg_da dt_X2_has 8 rfl) (by decide) ?_
    exact wr_zret0 (wg_da dt_X2_has 9 rfl) h
  · refine wr_iload_n (wg_da dt_X2_has 2 rfl) rfl ?_
    refine wr_aload_n (wg_da dt_X2_has 3 rfl) rfl ?_
    refine wr_getI wf_X2_31 (wg_da dt_X2_has 4 rfl) hx0 ?_
    refine wr_icmp_ge 16 (wg_da dt_X2_has 5 rfl) (by decide) h (fun h => ?_) (fun h => ?_)
    · refine wr_iconst (0 : Int32) (wg_da dt_X2_has 8 rfl) (by decide) ?_
      exact wr_zret0 (wg_da dt_X2_has 9 rfl) h
    · refine wr_iconst (1 : Int32) (wg_da dt_X2_has 6 rfl) (by decide) ?_
      refine wr_goto 17 (wg_da dt_X2_has 7 rfl) (by decide) ?_
      exact wr_zret1 (wg_da dt_X2_has 9 rfl) h
theorem m_X2_has (l : Launch) (E : wg_E) (x0 : Nat) (x1 : Int32) (hx0 : wg_t Sc x0 = 4) (σ : wg_M) (q : Int32 × wg_M) (h : f_X2_has x0 x1 σ = some q) : wg_MG l E Sc yX2_has cX2_has 2 (some .boolean) rm_X2_has [.ref x0, .int x1] σ (some q.1) q.2 :=
  wg_met [.ref x0, .int x1] (plainFor_of_name (by decide)) (Nat.le_of_ble_eq_true rfl) (g_X2_has_e l E x0 x1 σ q hx0 h)
abbrev rm_X2_lives : Room := { frames := 1, cells := 0, slots := 0, locals := 21 }
def tb_X2_lives : List (Nat × Instr × Nat) := [(0, .aload_n 0, 1), (1, .iload_n 1, 1), (2, .invokevirtual 35, 3), (5, .ifCond .eq 16, 3), (8, .aload_n 0, 1), (9, .getfield 21, 3), (12, .iload_n 1, 1), (13, .iaload, 1), (14, .ifCond .ne 7, 3), (17, .iconst 1, 1), (18, .goto 4, 3), (21, .iconst 0, 1), (22, .ireturn, 1)]
theorem dt_X2_lives : wg_dc cX2_lives tb_X2_lives := by unfold wg_dc; decide +kernel
def f_X2_lives  (x0 : Nat) (x1 : Int32) (σ : wg_M) : Option (Int32 × wg_M) := wg_bd (f_X2_has x0 x1 σ) (fun v1 s2 => if v1 = 0 then (some ((0 : Int32), s2)) else (wg_ga (wg_n Sc (wg_r Sc x0 3)) (s2 (wg_r Sc x0 3)) x1 (fun v3 => if v3 = 0 then (some ((1 : Int32), s2)) else (some ((0 : Int32), s2)))))
set_option maxRecDepth 20000 in
theorem g_X2_lives_e (l : Launch) (E : wg_E)  (x0 : Nat) (x1 : Int32) (σ : wg_M) (z : Int32 × wg_M) (hx0 : wg_t Sc x0 = 4) (h : f_X2_lives  x0 x1 σ = some z) : wg_G l E Sc "WornWigs$Judges" cX2_lives 2 (some .boolean) rm_X2_lives (some z.1) z.2 0 [some (.ref x0), some (.int x1)] [] σ := by
  refine wr_aload_n (wg_da dt_X2_lives 0 rfl) rfl ?_
  refine wr_iload_n (wg_da dt_X2_lives 1 rfl) rfl ?_
  refine wr_callVi [.int x1] [] (wg_da dt_X2_lives 2 rfl) ⟨wq_3_129, wq_3_105, wq_3_106⟩ hx0 ⟨rfl, by decide⟩ wy_X2_has (fun q hq => m_X2_has l E x0 x1 hx0 _ q hq) rfl rfl (Nat.le_of_ble_eq_true rfl) ⟨rfl, rfl, by decide, by decide⟩ h (fun v1 s2 h => ?_)
  refine wr_if_eq 21 (wg_da dt_X2_lives 3 rfl) (by decide) h (fun h => ?_) (fun h => ?_)
  · refine wr_iconst (0 : Int32) (wg_da dt_X2_lives 11 rfl) (by decide) ?_
    exact wr_zret0 (wg_da dt_X2_lives 12 rfl) h
  · refine wr_aload_n (wg_da dt_X2_lives 4 rfl) rfl ?_
    refine wr_getR wf_X2_21 (wg_da dt_X2_lives 5 rfl) hx0 ?_
    refine wr_iload_n (wg_da dt_X2_lives 6 rfl) rfl ?_
    refine wr_iald (wg_da dt_X2_lives 7 rfl) (wg_ty Sc_ok 2 3 0 hx0 rfl (by decide)).2 h (fun v3 h => ?_)
    refine wr_if_ne 21 (wg_da dt_X2_lives 8 rfl) (by decide) h (fun h => ?_) (fun h => ?_)
    · refine wr_iconst (1 : Int32) (wg_da dt_X2_lives 9 rfl) (by decide) ?_
      refine wr_goto 22 (wg_da dt_X2_lives 10 rfl) (by decide) ?_
      exact wr_zret1 (wg_da dt_X2_lives 12 rfl) h
    · refine wr_iconst (0 : Int32) (wg_da dt_X2_lives 11 rfl) (by decide) ?_
      exact wr_zret0 (wg_da dt_X2_lives 12 rfl) h
theorem m_X2_lives (l : Launch) (E : wg_E) (x0 : Nat) (x1 : Int32) (hx0 : wg_t Sc x0 = 4) (σ : wg_M) (q : Int32 × wg_M) (h : f_X2_lives x0 x1 σ = some q) : wg_MG l E Sc yX2_lives cX2_lives 2 (some .boolean) rm_X2_lives [.ref x0, .int x1] σ (some q.1) q.2 :=
  wg_met [.ref x0, .int x1] (plainFor_of_name (by decide)) (Nat.le_of_ble_eq_true rfl) (g_X2_lives_e l E x0 x1 σ q hx0 h)
abbrev rm_X1_canTry : Room := { frames := 2, cells := 0, slots := 0, locals := 42 }
def tb_X1_canTry : List (Nat × Instr × Nat) := [(0, .aload_n 0, 1), (1, .getfield 27, 3), (4, .iload_n 1, 1), (5, .invokevirtual 160, 3), (8, .ifCond .eq 33, 3), (11, .aload_n 0, 1), (12, .getfield 27, 3), (15, .getfield 163, 3), (18, .iload_n 1, 1), (19, .iaload, 1), (20, .sipush (-10000), 3), (23, .if_icmp .ne 18, 3), (26, .aload_n 0, 1), (27, .getfield 37, 3), (30, .iload_n 2, 1), (31, .invokevirtual 166, 3), (34, .ifCond .eq 7, 3), (37, .iconst 1, 1), (38, .goto 4, 3), (41, .iconst 0, 1), (42, .ireturn, 1)]
theorem dt_X1_canTry : wg_dc cX1_canTry tb_X1_canTry := by unfold wg_dc; decide +kernel
def f_X1_canTry  (x0 : Nat) (x1 : Int32) (x2 : Int32) (σ : wg_M) : Option (Int32 × wg_M) := wg_bd (f_X0_hasCase (wg_r Sc x0 1) x1 σ) (fun v1 s2 => if v1 = 0 then (some ((0 : Int32), s2)) else (wg_ga (wg_n Sc (wg_r Sc (wg_r Sc x0 1) 4)) (s2 (wg_r Sc (wg_r Sc x0 1) 4)) x1 (fun v3 => if v3 = (-10000 : Int32) then (wg_bd (f_X2_lives (wg_r Sc x0 3) x2 s2) (fun v4 s5 => if v4 = 0 then (some ((0 : Int32), s5)) else (some ((1 : Int32), s5)))) else (some ((0 : Int32), s2)))))
set_option maxRecDepth 20000 in
theorem g_X1_canTry_e (l : Launch) (E : wg_E)  (x0 : Nat) (x1 : Int32) (x2 : Int32) (σ : wg_M) (z : Int32 × wg_M) (hx0 : wg_t Sc x0 = 3) (h : f_X1_canTry  x0 x1 x2 σ = some z) : wg_G l E Sc "WornWigs$Court" cX1_canTry 3 (some .boolean) rm_X1_canTry (some z.1) z.2 0 [some (.ref x0), some (.int x1), some (.int x2)] [] σ := by
  refine wr_aload_n (wg_da dt_X1_canTry 0 rfl) rfl ?_
  refine wr_getR wf_X1_27 (wg_da dt_X1_canTry 1 rfl) hx0 ?_
  refine wr_iload_n (wg_da dt_X1_canTry 2 rfl) rfl ?_
  refine wr_callVi [.int x1] [] (wg_da dt_X1_canTry 3 rfl) ⟨wq_3_124, wq_3_113, wq_3_114⟩ (wg_ty Sc_ok 1 1 2 hx0 rfl (by decide)).2 ⟨rfl, by decide⟩ wy_X0_hasCase (fun q hq => m_X0_hasCase l E (wg_r Sc x0 1) x1 (wg_ty Sc_ok 1 1 2 hx0 rfl (by decide)).2 _ q hq) rfl rfl (Nat.le_of_ble_eq_true rfl) ⟨rfl, rfl, by decide, by decide⟩ h (fun v1 s2 h => ?_)
  refine wr_if_eq 41 (wg_da dt_X1_canTry 4 rfl) (by decide) h (fun h => ?_) (fun h => ?_)
  · refine wr_iconst (0 : Int32) (wg_da dt_X1_canTry 19 rfl) (by decide) ?_
    exact wr_zret0 (wg_da dt_X1_canTry 20 rfl) h
  · refine wr_aload_n (wg_da dt_X1_canTry 5 rfl) rfl ?_
    refine wr_getR wf_X1_27 (wg_da dt_X1_canTry 6 rfl) hx0 ?_
    refine wr_getR wf_X1_163 (wg_da dt_X1_canTry 7 rfl) (wg_ty Sc_ok 1 1 2 hx0 rfl (by decide)).2 ?_
    refine wr_iload_n (wg_da dt_X1_canTry 8 rfl) rfl ?_
    refine wr_iald (wg_da dt_X1_canTry 9 rfl) (wg_ty Sc_ok 0 4 0 (wg_ty Sc_ok 1 1 2 hx0 rfl (by decide)).2 rfl (by decide)).2 h (fun v3 h => ?_)
    refine wr_sipush (-10000 : Int32) (wg_da dt_X1_canTry 10 rfl) (by decide) ?_
    refine wr_icmp_ne 41 (wg_da dt_X1_canTry 11 rfl) (by decide) h (fun h => ?_) (fun h => ?_)
    · refine wr_aload_n (wg_da dt_X1_canTry 12 rfl) rfl ?_
      refine wr_getR wf_X1_37 (wg_da dt_X1_canTry 13 rfl) hx0 ?_
      refine wr_iload_n (wg_da dt_X1_canTry 14 rfl) rfl ?_
      refine wr_callVi [.int x2] [] (wg_da dt_X1_canTry 15 rfl) ⟨wq_3_125, wq_3_126, wq_3_127⟩ (wg_ty Sc_ok 1 3 4 hx0 rfl (by decide)).2 ⟨rfl, by decide⟩ wy_X2_lives (fun q hq => m_X2_lives l E (wg_r Sc x0 3) x2 (wg_ty Sc_ok 1 3 4 hx0 rfl (by decide)).2 _ q hq) rfl rfl (Nat.le_of_ble_eq_true rfl) ⟨rfl, rfl, by decide, by decide⟩ h (fun v4 s5 h => ?_)
      refine wr_if_eq 41 (wg_da dt_X1_canTry 16 rfl) (by decide) h (fun h => ?_) (fun h => ?_)
      · refine wr_iconst (0 : Int32) (wg_da dt_X1_canTry 19 rfl) (by decide) ?_
        exact wr_zret0 (wg_da dt_X1_canTry 20 rfl) h
      · refine wr_iconst (1 : Int32) (wg_da dt_X1_canTry 17 rfl) (by decide) ?_
        refine wr_goto 42 (wg_da dt_X1_canTry 18 rfl) (by decide) ?_
        exact wr_zret1 (wg_da dt_X1_canTry 20 rfl) h
    · refine wr_iconst (0 : Int32) (wg_da dt_X1_canTry 19 rfl) (by decide) ?_
      exact wr_zret0 (wg_da dt_X1_canTry 20 rfl) h
theorem m_X1_canTry (l : Launch) (E : wg_E) (x0 : Nat) (x1 : Int32) (x2 : Int32) (hx0 : wg_t Sc x0 = 3) (σ : wg_M) (q : Int32 × wg_M) (h : f_X1_canTry x0 x1 x2 σ = some q) : wg_MG l E Sc yX1_canTry cX1_canTry 3 (some .boolean) rm_X1_canTry [.ref x0, .int x1, .int x2] σ (some q.1) q.2 :=
  wg_met [.ref x0, .int x1, .int x2] (plainFor_of_name (by decide)) (Nat.le_of_ble_eq_true rfl) (g_X1_canTry_e l E x0 x1 x2 σ q hx0 h)
abbrev rm_X9_lightestRule : Room := { frames := 0, cells := 0, slots := 0, locals := 0 }
def tb_X9_lightestRule : List (Nat × Instr × Nat) := [(0, .iconst 0, 1), (1, .istore_n 2, 1), (2, .iconst 1, 1), (3, .istore_n 3, 1), (4, .iload_n 3, 1), (5, .aload_n 0, 1), (6, .getfield 24, 3), (9, .iload_n 1, 1), (10, .iaload, 1), (11, .if_icmp .ge 36, 3), (14, .aload_n 0, 1), (15, .getfield 33, 3), (18, .iload_n 1, 1), (19, .bipush 8, 2), (21, .imul, 1), (22, .iload_n 3, 1), (23, .iadd, 1), (24, .iaload, 1), (25, .aload_n 0, 1), (26, .getfield 33, 3), (29, .iload_n 1, 1), (30, .bipush 8, 2), (32, .imul, 1), (33, .iload_n 2, 1), (34, .iadd, 1), (35, .iaload, 1), (36, .if_icmp .ge 5, 3), (39, .iload_n 3, 1), (40, .istore_n 2, 1), (41, .iinc 3 1, 3), (44, .goto (-40), 3), (47, .iload_n 2, 1), (48, .ireturn, 1)]
theorem dt_X9_lightestRule : wg_dc cX9_lightestRule tb_X9_lightestRule := by unfold wg_dc; decide +kernel
def f_X9_lightestRule_41 (k4 : Nat → Int32 → Int32 → Int32 → wg_M → Option (Int32 × wg_M)) (x0 : Nat) (x1 : Int32) (x2 : Int32) (x3 : Int32) (σ : wg_M) : Option (Int32 × wg_M) := wg_let (x3 + (1 : Int32)) (fun v1 => k4 x0 x1 x2 v1 σ)
def f_X9_lightestRule_4  : Nat → Nat → Int32 → Int32 → Int32 → wg_M → Option (Int32 × wg_M)
  | 0, _, _, _, _, _ => none
  | n + 1, x0, x1, x2, x3, σ => wg_ga (wg_n Sc (wg_r Sc x0 4)) (σ (wg_r Sc x0 4)) x1 (fun v1 => if v1 ≤ x3 then (some (x2, σ)) else (wg_ga (wg_n Sc (wg_r Sc x0 7)) (σ (wg_r Sc x0 7)) ((x1 * (8 : Int32)) + x3) (fun v2 => wg_ga (wg_n Sc (wg_r Sc x0 7)) (σ (wg_r Sc x0 7)) ((x1 * (8 : Int32)) + x2) (fun v3 => if v3 ≤ v2 then (f_X9_lightestRule_41 (f_X9_lightestRule_4  n) x0 x1 x2 x3 σ) else (f_X9_lightestRule_41 (f_X9_lightestRule_4  n) x0 x1 x3 x3 σ)))))
def f_X9_lightestRule  (x0 : Nat) (x1 : Int32) (σ : wg_M) : Option (Int32 × wg_M) := f_X9_lightestRule_4  wg_N x0 x1 (0 : Int32) (1 : Int32) σ
set_option maxRecDepth 20000 in
theorem g_X9_lightestRule_41 (l : Launch) (E : wg_E) (k4 : Nat → Int32 → Int32 → Int32 → wg_M → Option (Int32 × wg_M)) (x0 : Nat) (x1 : Int32) (x2 : Int32) (x3 : Int32) (σ : wg_M) (z : Int32 × wg_M) (hx0 : wg_t Sc x0 = 11) (hk4 : ∀ (x0 : Nat) (x1 : Int32) (x2 : Int32) (x3 : Int32) (σ : wg_M), wg_t Sc x0 = 11 → k4 x0 x1 x2 x3 σ = some z → wg_G l E Sc "WornWigs$Wigs" cX9_lightestRule 4 (some .int) rm_X9_lightestRule (some z.1) z.2 4 [some (.ref x0), some (.int x1), some (.int x2), some (.int x3)] [] σ) (h : f_X9_lightestRule_41 k4 x0 x1 x2 x3 σ = some z) : wg_G l E Sc "WornWigs$Wigs" cX9_lightestRule 4 (some .int) rm_X9_lightestRule (some z.1) z.2 41 [some (.ref x0), some (.int x1), some (.int x2), some (.int x3)] [] σ := by
  refine wr_iinc (c0 := (1 : Int32)) (wg_da dt_X9_lightestRule 29 rfl) rfl (by decide) (by decide) h (fun v1 h => ?_)
  refine wr_goto 4 (wg_da dt_X9_lightestRule 30 rfl) (by decide) ?_
  exact wr_wk [true, true, true, true] (hk4 x0 x1 x2 v1 σ hx0 h)
set_option maxRecDepth 20000 in
theorem g_X9_lightestRule_4 (l : Launch) (E : wg_E)  (z : Int32 × wg_M) : ∀ (n : Nat) (x0 : Nat) (x1 : Int32) (x2 : Int32) (x3 : Int32) (σ : wg_M) (hx0 : wg_t Sc x0 = 11) (h : f_X9_lightestRule_4  n x0 x1 x2 x3 σ = some z), wg_G l E Sc "WornWigs$Wigs" cX9_lightestRule 4 (some .int) rm_X9_lightestRule (some z.1) z.2 4 [some (.ref x0), some (.int x1), some (.int x2), some (.int x3)] [] σ := by
  intro n
  induction n with
  | zero => intro x0 x1 x2 x3 σ hx0 h; cases h
  | succ n ih =>
    intro x0 x1 x2 x3 σ hx0 h
    refine wr_iload_n (wg_da dt_X9_lightestRule 4 rfl) rfl ?_
    refine wr_aload_n (wg_da dt_X9_lightestRule 5 rfl) rfl ?_
    refine wr_getR wf_X9_24 (wg_da dt_X9_lightestRule 6 rfl) hx0 ?_
    refine wr_iload_n (wg_da dt_X9_lightestRule 7 rfl) rfl ?_
    refine wr_iald (wg_da dt_X9_lightestRule 8 rfl) (wg_ty Sc_ok 9 4 0 hx0 rfl (by decide)).2 h (fun v1 h => ?_)
    refine wr_icmp_ge 47 (wg_da dt_X9_lightestRule 9 rfl) (by decide) h (fun h => ?_) (fun h => ?_)
    · refine wr_iload_n (wg_da dt_X9_lightestRule 31 rfl) rfl ?_
      exact wr_iret (wg_da dt_X9_lightestRule 32 rfl) h
    · refine wr_aload_n (wg_da dt_X9_lightestRule 10 rfl) rfl ?_
      refine wr_getR wf_X9_33 (wg_da dt_X9_lightestRule 11 rfl) hx0 ?_
      refine wr_iload_n (wg_da dt_X9_lightestRule 12 rfl) rfl ?_
      refine wr_bipush (8 : Int32) (wg_da dt_X9_lightestRule 13 rfl) (by decide) ?_
      refine wr_imul (wg_da dt_X9_lightestRule 14 rfl) ?_
      refine wr_iload_n (wg_da dt_X9_lightestRule 15 rfl) rfl ?_
      refine wr_iadd (wg_da dt_X9_lightestRule 16 rfl) ?_
      refine wr_iald (wg_da dt_X9_lightestRule 17 rfl) (wg_ty Sc_ok 9 7 0 hx0 rfl (by decide)).2 h (fun v2 h => ?_)
      refine wr_aload_n (wg_da dt_X9_lightestRule 18 rfl) rfl ?_
      refine wr_getR wf_X9_33 (wg_da dt_X9_lightestRule 19 rfl) hx0 ?_
      refine wr_iload_n (wg_da dt_X9_lightestRule 20 rfl) rfl ?_
      refine wr_bipush (8 : Int32) (wg_da dt_X9_lightestRule 21 rfl) (by decide) ?_
      refine wr_imul (wg_da dt_X9_lightestRule 22 rfl) ?_
      refine wr_iload_n (wg_da dt_X9_lightestRule 23 rfl) rfl ?_
      refine wr_iadd (wg_da dt_X9_lightestRule 24 rfl) ?_
      refine wr_iald (wg_da dt_X9_lightestRule 25 rfl) (wg_ty Sc_ok 9 7 0 hx0 rfl (by decide)).2 h (fun v3 h => ?_)
      refine wr_icmp_ge 41 (wg_da dt_X9_lightestRule 26 rfl) (by decide) h (fun h => ?_) (fun h => ?_)
      · exact wr_wk [true, true, true, true] (g_X9_lightestRule_41 l E (f_X9_lightestRule_4  n) x0 x1 x2 x3 σ _ hx0 (fun x0 x1 x2 x3 σ hx0 h => ih x0 x1 x2 x3 σ hx0 h) h)
      · refine wr_iload_n (wg_da dt_X9_lightestRule 27 rfl) rfl ?_
        refine wr_istore_n (wg_da dt_X9_lightestRule 28 rfl) (by decide) ?_
        exact wr_wk [true, true, true, true] (g_X9_lightestRule_41 l E (f_X9_lightestRule_4  n) x0 x1 x3 x3 σ _ hx0 (fun x0 x1 x2 x3 σ hx0 h => ih x0 x1 x2 x3 σ hx0 h) h)
set_option maxRecDepth 20000 in
theorem g_X9_lightestRule_e (l : Launch) (E : wg_E)  (x0 : Nat) (x1 : Int32) (σ : wg_M) (z : Int32 × wg_M) (hx0 : wg_t Sc x0 = 11) (h : f_X9_lightestRule  x0 x1 σ = some z) : wg_G l E Sc "WornWigs$Wigs" cX9_lightestRule 4 (some .int) rm_X9_lightestRule (some z.1) z.2 0 [some (.ref x0), some (.int x1), none, none] [] σ := by
  refine wr_iconst (0 : Int32) (wg_da dt_X9_lightestRule 0 rfl) (by decide) ?_
  refine wr_istore_n (wg_da dt_X9_lightestRule 1 rfl) (by decide) ?_
  refine wr_iconst (1 : Int32) (wg_da dt_X9_lightestRule 2 rfl) (by decide) ?_
  refine wr_istore_n (wg_da dt_X9_lightestRule 3 rfl) (by decide) ?_
  exact wr_wk [true, true, true, true] (g_X9_lightestRule_4 l E  _  wg_N x0 x1 (0 : Int32) (1 : Int32) σ hx0 h)
theorem m_X9_lightestRule (l : Launch) (E : wg_E) (x0 : Nat) (x1 : Int32) (hx0 : wg_t Sc x0 = 11) (σ : wg_M) (q : Int32 × wg_M) (h : f_X9_lightestRule x0 x1 σ = some q) : wg_MG l E Sc yX9_lightestRule cX9_lightestRule 4 (some .int) rm_X9_lightestRule [.ref x0, .int x1] σ (some q.1) q.2 :=
  wg_met [.ref x0, .int x1] (plainFor_of_name (by decide)) (Nat.le_of_ble_eq_true rfl) (g_X9_lightestRule_e l E x0 x1 σ q hx0 h)

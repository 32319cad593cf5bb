abbrev rm_X12_judge : Room := { frames := 1, cells := 0, slots := 0, locals := 23 }
def tb_X12_judge : List (Nat × Instr × Nat) := [(0, .aload_n 0, 1), (1, .iconst 0, 1), (2, .putfield 113, 3), (5, .aload_n 0, 1), (6, .iload_n 1, 1), (7, .iconst 0, 1), (8, .bipush 120, 2), (10, .invokevirtual 153, 3), (13, .ifCond .eq 24, 3), (16, .aload_n 0, 1), (17, .iload_n 2, 1), (18, .bipush (-9), 2), (20, .bipush 9, 2), (22, .invokevirtual 153, 3), (25, .ifCond .eq 12, 3), (28, .aload_n 0, 1), (29, .getfield 128, 3), (32, .bipush 10, 2), (34, .if_icmp .ne 5, 3), (37, .iconst (-1), 1), (38, .ireturn, 1), (39, .aload_n 0, 1), (40, .getfield 7, 3), (43, .iconst 3, 1), (44, .aload_n 0, 1), (45, .getfield 128, 3), (48, .iadd, 1), (49, .iload_n 1, 1), (50, .iastore, 1), (51, .aload_n 0, 1), (52, .getfield 7, 3), (55, .bipush 13, 2), (57, .aload_n 0, 1), (58, .getfield 128, 3), (61, .iadd, 1), (62, .iconst 0, 1), (63, .iastore, 1), (64, .aload_n 0, 1), (65, .getfield 7, 3), (68, .bipush 23, 2), (70, .aload_n 0, 1), (71, .getfield 128, 3), (74, .iadd, 1), (75, .iconst 0, 1), (76, .iastore, 1), (77, .aload_n 0, 1), (78, .getfield 7, 3), (81, .bipush 33, 2), (83, .aload_n 0, 1), (84, .getfield 128, 3), (87, .iadd, 1), (88, .iconst 0, 1), (89, .iastore, 1), (90, .aload_n 0, 1), (91, .getfield 22, 3), (94, .aload_n 0, 1), (95, .getfield 128, 3), (98, .iload_n 2, 1), (99, .iastore, 1), (100, .aload_n 0, 1), (101, .aload_n 0, 1), (102, .getfield 128, 3), (105, .iconst 1, 1), (106, .iadd, 1), (107, .putfield 128, 3), (110, .aload_n 0, 1), (111, .iconst 0, 1), (112, .putfield 116, 3), (115, .aload_n 0, 1), (116, .getfield 128, 3), (119, .iconst 1, 1), (120, .isub, 1), (121, .ireturn, 1)]
theorem dt_X12_judge : wg_dc cX12_judge tb_X12_judge := by unfold wg_dc; decide +kernel
def f_X12_judge  (x0 : Nat) (x1 : Int32) (x2 : Int32) (σ : wg_M) : Option (Int32 × wg_M) := wg_st σ x0 0 (0 : Int32) (fun s1 => wg_bd (f_X12_isIn x0 x1 (0 : Int32) (120 : Int32) s1) (fun v2 s3 => if v2 = 0 then (some ((-1 : Int32), s3)) else (wg_bd (f_X12_isIn x0 x2 (-9 : Int32) (9 : Int32) s3) (fun v4 s5 => if v4 = 0 then (some ((-1 : Int32), s5)) else (if (s5 x0 7) = (10 : Int32) then (some ((-1 : Int32), s5)) else (wg_sa (wg_n Sm (wg_r Sm x0 1)) s5 (wg_r Sm x0 1) ((3 : Int32) + (s5 x0 7)) x1 (fun s6 => wg_sa (wg_n Sm (wg_r Sm x0 1)) s6 (wg_r Sm x0 1) ((13 : Int32) + (s6 x0 7)) (0 : Int32) (fun s7 => wg_sa (wg_n Sm (wg_r Sm x0 1)) s7 (wg_r Sm x0 1) ((23 : Int32) + (s7 x0 7)) (0 : Int32) (fun s8 => wg_sa (wg_n Sm (wg_r Sm x0 1)) s8 (wg_r Sm x0 1) ((33 : Int32) + (s8 x0 7)) (0 : Int32) (fun s9 => wg_sa (wg_n Sm (wg_r Sm x0 10)) s9 (wg_r Sm x0 10) (s9 x0 7) x2 (fun s10 => wg_st s10 x0 7 ((s10 x0 7) + (1 : Int32)) (fun s11 => wg_st s11 x0 3 (0 : Int32) (fun s12 => some ((s12 x0 7) - (1 : Int32), s12))))))))))))))
set_option maxRecDepth 20000 in
theorem g_X12_judge_e (l : Launch) (E : wg_E)  (x0 : Nat) (x1 : Int32) (x2 : Int32) (σ : wg_M) (z : Int32 × wg_M) (hx0 : wg_t Sm x0 = 14) (h : f_X12_judge  x0 x1 x2 σ = some z) : wg_G l E Sm "WornWigsModel" cX12_judge 3 (some .int) rm_X12_judge (some z.1) z.2 0 [some (.ref x0), some (.int x1), some (.int x2)] [] σ := by
  refine wr_aload_n (wg_da dt_X12_judge 0 rfl) rfl ?_
  refine wr_iconst (0 : Int32) (wg_da dt_X12_judge 1 rfl) (by decide) ?_
  refine wr_putI wfp_X12_113 (wg_da dt_X12_judge 2 rfl) hx0 h (fun s1 h => ?_)
  refine wr_aload_n (wg_da dt_X12_judge 3 rfl) rfl ?_
  refine wr_iload_n (wg_da dt_X12_judge 4 rfl) rfl ?_
  refine wr_iconst (0 : Int32) (wg_da dt_X12_judge 5 rfl) (by decide) ?_
  refine wr_bipush (120 : Int32) (wg_da dt_X12_judge 6 rfl) (by decide) ?_
  refine wr_callVi [.int x1, .int (0 : Int32), .int (120 : Int32)] [] (wg_da dt_X12_judge 7 rfl) ⟨wq_7_82, wq_7_84, wq_p4_3⟩ hx0 ⟨rfl, by decide⟩ wy_X12_isIn (fun q hq => m_X12_isIn l E x0 x1 (0 : Int32) (120 : Int32) hx0 _ q hq) rfl rfl (Nat.le_of_ble_eq_true rfl) ⟨rfl, rfl, by decide, by decide⟩ h (fun v2 s3 h => ?_)
  refine wr_if_eq 37 (wg_da dt_X12_judge 8 rfl) (by decide) h (fun h => ?_) (fun h => ?_)
  · refine wr_iconst (-1 : Int32) (wg_da dt_X12_judge 19 rfl) (by decide) ?_
    exact wr_iret (wg_da dt_X12_judge 20 rfl) h
  · refine wr_aload_n (wg_da dt_X12_judge 9 rfl) rfl ?_
    refine wr_iload_n (wg_da dt_X12_judge 10 rfl) rfl ?_
    refine wr_bipush (-9 : Int32) (wg_da dt_X12_judge 11 rfl) (by decide) ?_
    refine wr_bipush (9 : Int32) (wg_da dt_X12_judge 12 rfl) (by decide) ?_
    refine wr_callVi [.int x2, .int (-9 : Int32), .int (9 : Int32)] [] (wg_da dt_X12_judge 13 rfl) ⟨wq_7_82, wq_7_84, wq_p4_3⟩ hx0 ⟨rfl, by decide⟩ wy_X12_isIn (fun q hq => m_X12_isIn l E x0 x2 (-9 : Int32) (9 : Int32) hx0 _ q hq) rfl rfl (Nat.le_of_ble_eq_true rfl) ⟨rfl, rfl, by decide, by decide⟩ h (fun v4 s5 h => ?_)
    refine wr_if_eq 37 (wg_da dt_X12_judge 14 rfl) (by decide) h (fun h => ?_) (fun h => ?_)
    · refine wr_iconst (-1 : Int32) (wg_da dt_X12_judge 19 rfl) (by decide) ?_
      exact wr_iret (wg_da dt_X12_judge 20 rfl) h
    · refine wr_aload_n (wg_da dt_X12_judge 15 rfl) rfl ?_
      refine wr_getI wf_X12_128 (wg_da dt_X12_judge 16 rfl) hx0 ?_
      refine wr_bipush (10 : Int32) (wg_da dt_X12_judge 17 rfl) (by decide) ?_
      refine wr_icmp_ne 39 (wg_da dt_X12_judge 18 rfl) (by decide) h (fun h => ?_) (fun h => ?_)
      · refine wr_iconst (-1 : Int32) (wg_da dt_X12_judge 19 rfl) (by decide) ?_
        exact wr_iret (wg_da dt_X12_judge 20 rfl) h
      · refine wr_aload_n (wg_da dt_X12_judge 21 rfl) rfl ?_
        refine wr_getR wf_X12_7 (wg_da dt_X12_judge 22 rfl) hx0 ?_
        refine wr_iconst (3 : Int32) (wg_da dt_X12_judge 23 rfl) (by decide) ?_
        refine wr_aload_n (wg_da dt_X12_judge 24 rfl) rfl ?_
        refine wr_getI wf_X12_128 (wg_da dt_X12_judge 25 rfl) hx0 ?_
        refine wr_iadd (wg_da dt_X12_judge 26 rfl) ?_
        refine wr_iload_n (wg_da dt_X12_judge 27 rfl) rfl ?_
        refine wr_iast (wg_da dt_X12_judge 28 rfl) (wg_ty Sm_ok 12 1 0 hx0 rfl (by decide)).2 h (fun s6 h => ?_)
        refine wr_aload_n (wg_da dt_X12_judge 29 rfl) rfl ?_
        refine wr_getR wf_X12_7 (wg_da dt_X12_judge 30 rfl) hx0 ?_
        refine wr_bipush (13 : Int32) (wg_da dt_X12_judge 31 rfl) (by decide) ?_
        refine wr_aload_n (wg_da dt_X12_judge 32 rfl) rfl ?_
        refine wr_getI wf_X12_128 (wg_da dt_X12_judge 33 rfl) hx0 ?_
        refine wr_iadd (wg_da dt_X12_judge 34 rfl) ?_
        refine wr_iconst (0 : Int32) (wg_da dt_X12_judge 35 rfl) (by decide) ?_
        refine wr_iast (wg_da dt_X12_judge 36 rfl) (wg_ty Sm_ok 12 1 0 hx0 rfl (by decide)).2 h (fun s7 h => ?_)
        refine wr_aload_n (wg_da dt_X12_judge 37 rfl) rfl ?_
        refine wr_getR wf_X12_7 (wg_da dt_X12_judge 38 rfl) hx0 ?_
        refine wr_bipush (23 : Int32) (wg_da dt_X12_judge 39 rfl) (by decide) ?_
        refine wr_aload_n (wg_da dt_X12_judge 40 rfl) rfl ?_
        refine wr_getI wf_X12_128 (wg_da dt_X12_judge 41 rfl) hx0 ?_
        refine wr_iadd (wg_da dt_X12_judge 42 rfl) ?_
        refine wr_iconst (0 : Int32) (wg_da dt_X12_judge 43 rfl) (by decide) ?_
        refine wr_iast (wg_da dt_X12_judge 44 rfl) (wg_ty Sm_ok 12 1 0 hx0 rfl (by decide)).2 h (fun s8 h => ?_)
        refine wr_aload_n (wg_da dt_X12_judge 45 rfl) rfl ?_
        refine wr_getR wf_X12_7 (wg_da dt_X12_judge 46 rfl) hx0 ?_
        refine wr_bipush (33 : Int32) (wg_da dt_X12_judge 47 rfl) (by decide) ?_
        refine wr_aload_n (wg_da dt_X12_judge 48 rfl) rfl ?_
        refine wr_getI wf_X12_128 (wg_da dt_X12_judge 49 rfl) hx0 ?_
        refine wr_iadd (wg_da dt_X12_judge 50 rfl) ?_
        refine wr_iconst (0 : Int32) (wg_da dt_X12_judge 51 rfl) (by decide) ?_
        refine wr_iast (wg_da dt_X12_judge 52 rfl) (wg_ty Sm_ok 12 1 0 hx0 rfl (by decide)).2 h (fun s9 h => ?_)
        refine wr_aload_n (wg_da dt_X12_judge 53 rfl) rfl ?_
        refine wr_getR wf_X12_22 (wg_da dt_X12_judge 54 rfl) hx0 ?_
        refine wr_aload_n (wg_da dt_X12_judge 55 rfl) rfl ?_
        refine wr_getI wf_X12_128 (wg_da dt_X12_judge 56 rfl) hx0 ?_
        refine wr_iload_n (wg_da dt_X12_judge 57 rfl) rfl ?_
        refine wr_iast (wg_da dt_X12_judge 58 rfl) (wg_ty Sm_ok 12 10 0 hx0 rfl (by decide)).2 h (fun s10 h => ?_)
        refine wr_aload_n (wg_da dt_X12_judge 59 rfl) rfl ?_
        refine wr_aload_n (wg_da dt_X12_judge 60 rfl) rfl ?_
        refine wr_getI wf_X12_128 (wg_da dt_X12_judge 61 rfl) hx0 ?_
        refine wr_iconst (1 : Int32) (wg_da dt_X12_judge 62 rfl) (by decide) ?_
        refine wr_iadd (wg_da dt_X12_judge 63 rfl) ?_
        refine wr_putI wfp_X12_128 (wg_da dt_X12_judge 64 rfl) hx0 h (fun s11 h => ?_)
        refine wr_aload_n (wg_da dt_X12_judge 65 rfl) rfl ?_
        refine wr_iconst (0 : Int32) (wg_da dt_X12_judge 66 rfl) (by decide) ?_
        refine wr_putI wfp_X12_116 (wg_da dt_X12_judge 67 rfl) hx0 h (fun s12 h => ?_)
        refine wr_aload_n (wg_da dt_X12_judge 68 rfl) rfl ?_
        refine wr_getI wf_X12_128 (wg_da dt_X12_judge 69 rfl) hx0 ?_
        refine wr_iconst (1 : Int32) (wg_da dt_X12_judge 70 rfl) (by decide) ?_
        refine wr_isub (wg_da dt_X12_judge 71 rfl) ?_
        exact wr_iret (wg_da dt_X12_judge 72 rfl) h
theorem m_X12_judge (l : Launch) (E : wg_E) (x0 : Nat) (x1 : Int32) (x2 : Int32) (hx0 : wg_t Sm x0 = 14) (σ : wg_M) (q : Int32 × wg_M) (h : f_X12_judge x0 x1 x2 σ = some q) : wg_MG l E Sm yX12_judge cX12_judge 3 (some .int) rm_X12_judge [.ref x0, .int x1, .int x2] σ (some q.1) q.2 :=
  wg_met [.ref x0, .int x1, .int x2] (plainFor_of_name (by decide)) (Nat.le_of_ble_eq_true rfl) (g_X12_judge_e l E x0 x1 x2 σ q hx0 h)
abbrev rm_X12_trial : Room := { frames := 1, cells := 0, slots := 0, locals := 23 }
def tb_X12_trial : List (Nat × Instr × Nat) := [(0, .aload_n 0, 1), (1, .iconst 0, 1), (2, .putfield 113, 3), (5, .aload_n 0, 1), (6, .iload_n 1, 1), (7, .iconst 0, 1), (8, .bipush 7, 2), (10, .invokevirtual 153, 3), (13, .ifCond .eq 24, 3), (16, .aload_n 0, 1), (17, .iload_n 2, 1), (18, .bipush (-99), 2), (20, .bipush 99, 2), (22, .invokevirtual 153, 3), (25, .ifCond .eq 12, 3), (28, .aload_n 0, 1), (29, .getfield 131, 3), (32, .bipush 14, 2), (34, .if_icmp .ne 5, 3), (37, .iconst (-1), 1), (38, .ireturn, 1), (39, .aload_n 0, 1), (40, .getfield 25, 3), (43, .aload_n 0, 1), (44, .getfield 131, 3), (47, .iload_n 1, 1), (48, .iastore, 1), (49, .aload_n 0, 1), (50, .getfield 28, 3), (53, .aload_n 0, 1), (54, .getfield 131, 3), (57, .iload_n 2, 1), (58, .iastore, 1), (59, .aload_n 0, 1), (60, .getfield 7, 3), (63, .sipush 267, 3), (66, .aload_n 0, 1), (67, .getfield 131, 3), (70, .iadd, 1), (71, .iconst 0, 1), (72, .iastore, 1), (73, .aload_n 0, 1), (74, .getfield 7, 3), (77, .sipush 281, 3), (80, .aload_n 0, 1), (81, .getfield 131, 3), (84, .iadd, 1), (85, .iconst 0, 1), (86, .iastore, 1), (87, .aload_n 0, 1), (88, .aload_n 0, 1), (89, .getfield 131, 3), (92, .iconst 1, 1), (93, .iadd, 1), (94, .putfield 131, 3), (97, .aload_n 0, 1), (98, .iconst 0, 1), (99, .putfield 116, 3), (102, .aload_n 0, 1), (103, .getfield 131, 3), (106, .iconst 1, 1), (107, .isub, 1), (108, .ireturn, 1)]
theorem dt_X12_trial : wg_dc cX12_trial tb_X12_trial := by unfold wg_dc; decide +kernel
def f_X12_trial  (x0 : Nat) (x1 : Int32) (x2 : Int32) (σ : wg_M) : Option (Int32 × wg_M) := wg_st σ x0 0 (0 : Int32) (fun s1 => wg_bd (f_X12_isIn x0 x1 (0 : Int32) (7 : Int32) s1) (fun v2 s3 => if v2 = 0 then (some ((-1 : Int32), s3)) else (wg_bd (f_X12_isIn x0 x2 (-99 : Int32) (99 : Int32) s3) (fun v4 s5 => if v4 = 0 then (some ((-1 : Int32), s5)) else (if (s5 x0 8) = (14 : Int32) then (some ((-1 : Int32), s5)) else (wg_sa (wg_n Sm (wg_r Sm x0 11)) s5 (wg_r Sm x0 11) (s5 x0 8) x1 (fun s6 => wg_sa (wg_n Sm (wg_r Sm x0 12)) s6 (wg_r Sm x0 12) (s6 x0 8) x2 (fun s7 => wg_sa (wg_n Sm (wg_r Sm x0 1)) s7 (wg_r Sm x0 1) ((267 : Int32) + (s7 x0 8)) (0 : Int32) (fun s8 => wg_sa (wg_n Sm (wg_r Sm x0 1)) s8 (wg_r Sm x0 1) ((281 : Int32) + (s8 x0 8)) (0 : Int32) (fun s9 => wg_st s9 x0 8 ((s9 x0 8) + (1 : Int32)) (fun s10 => wg_st s10 x0 3 (0 : Int32) (fun s11 => some ((s11 x0 8) - (1 : Int32), s11)))))))))))))
set_option maxRecDepth 20000 in
theorem g_X12_trial_e (l : Launch) (E : wg_E)  (x0 : Nat) (x1 : Int32) (x2 : Int32) (σ : wg_M) (z : Int32 × wg_M) (hx0 : wg_t Sm x0 = 14) (h : f_X12_trial  x0 x1 x2 σ = some z) : wg_G l E Sm "WornWigsModel" cX12_trial 3 (some .int) rm_X12_trial (some z.1) z.2 0 [some (.ref x0), some (.int x1), some (.int x2)] [] σ := by
  refine wr_aload_n (wg_da dt_X12_trial 0 rfl) rfl ?_
  refine wr_iconst (0 : Int32) (wg_da dt_X12_trial 1 rfl) (by decide) ?_
  refine wr_putI wfp_X12_113 (wg_da dt_X12_trial 2 rfl) hx0 h (fun s1 h => ?_)
  refine wr_aload_n (wg_da dt_X12_trial 3 rfl) rfl ?_
  refine wr_iload_n (wg_da dt_X12_trial 4 rfl) rfl ?_
  refine wr_iconst (0 : Int32) (wg_da dt_X12_trial 5 rfl) (by decide) ?_
  refine wr_bipush (7 : Int32) (wg_da dt_X12_trial 6 rfl) (by decide) ?_
  refine wr_callVi [.int x1, .int (0 : Int32), .int (7 : Int32)] [] (wg_da dt_X12_trial 7 rfl) ⟨wq_7_82, wq_7_84, wq_p4_3⟩ hx0 ⟨rfl, by decide⟩ wy_X12_isIn (fun q hq => m_X12_isIn l E x0 x1 (0 : Int32) (7 : Int32) hx0 _ q hq) rfl rfl (Nat.le_of_ble_eq_true rfl) ⟨rfl, rfl, by decide, by decide⟩ h (fun v2 s3 h => ?_)
  refine wr_if_eq 37 (wg_da dt_X12_trial 8 rfl) (by decide) h (fun h => ?_) (fun h => ?_)
  · refine wr_iconst (-1 : Int32) (wg_da dt_X12_trial 19 rfl) (by decide) ?_
    exact wr_iret (wg_da dt_X12_trial 20 rfl) h
  · refine wr_aload_n (wg_da dt_X12_trial 9 rfl) rfl ?_
    refine wr_iload_n (wg_da dt_X12_trial 10 rfl) rfl ?_
    refine wr_bipush (-99 : Int32) (wg_da dt_X12_trial 11 rfl) (by decide) ?_
    refine wr_bipush (99 : Int32) (wg_da dt_X12_trial 12 rfl) (by decide) ?_
    refine wr_callVi [.int x2, .int (-99 : Int32), .int (99 : Int32)] [] (wg_da dt_X12_trial 13 rfl) ⟨wq_7_82, wq_7_84, wq_p4_3⟩ hx0 ⟨rfl, by decide⟩ wy_X12_isIn (fun q hq => m_X12_isIn l E x0 x2 (-99 : Int32) (99 : Int32) hx0 _ q hq) rfl rfl (Nat.le_of_ble_eq_true rfl) ⟨rfl, rfl, by decide, by decide⟩ h (fun v4 s5 h => ?_)
    refine wr_if_eq 37 (wg_da dt_X12_trial 14 rfl) (by decide) h (fun h => ?_) (fun h => ?_)
    · refine wr_iconst (-1 : Int32) (wg_da dt_X12_trial 19 rfl) (by decide) ?_
      exact wr_iret (wg_da dt_X12_trial 20 rfl) h
    · refine wr_aload_n (wg_da dt_X12_trial 15 rfl) rfl ?_
      refine wr_getI wf_X12_131 (wg_da dt_X12_trial 16 rfl) hx0 ?_
      refine wr_bipush (14 : Int32) (wg_da dt_X12_trial 17 rfl) (by decide) ?_
      refine wr_icmp_ne 39 (wg_da dt_X12_trial 18 rfl) (by decide) h (fun h => ?_) (fun h => ?_)
      · refine wr_iconst (-1 : Int32) (wg_da dt_X12_trial 19 rfl) (by decide) ?_
        exact wr_iret (wg_da dt_X12_trial 20 rfl) h
      · refine wr_aload_n (wg_da dt_X12_trial 21 rfl) rfl ?_
        refine wr_getR wf_X12_25 (wg_da dt_X12_trial 22 rfl) hx0 ?_
        refine wr_aload_n (wg_da dt_X12_trial 23 rfl) rfl ?_
        refine wr_getI wf_X12_131 (wg_da dt_X12_trial 24 rfl) hx0 ?_
        refine wr_iload_n (wg_da dt_X12_trial 25 rfl) rfl ?_
        refine wr_iast (wg_da dt_X12_trial 26 rfl) (wg_ty Sm_ok 12 11 0 hx0 rfl (by decide)).2 h (fun s6 h => ?_)
        refine wr_aload_n (wg_da dt_X12_trial 27 rfl) rfl ?_
        refine wr_getR wf_X12_28 (wg_da dt_X12_trial 28 rfl) hx0 ?_
        refine wr_aload_n (wg_da dt_X12_trial 29 rfl) rfl ?_
        refine wr_getI wf_X12_131 (wg_da dt_X12_trial 30 rfl) hx0 ?_
        refine wr_iload_n (wg_da dt_X12_trial 31 rfl) rfl ?_
        refine wr_iast (wg_da dt_X12_trial 32 rfl) (wg_ty Sm_ok 12 12 0 hx0 rfl (by decide)).2 h (fun s7 h => ?_)
        refine wr_aload_n (wg_da dt_X12_trial 33 rfl) rfl ?_
        refine wr_getR wf_X12_7 (wg_da dt_X12_trial 34 rfl) hx0 ?_
        refine wr_sipush (267 : Int32) (wg_da dt_X12_trial 35 rfl) (by decide) ?_
        refine wr_aload_n (wg_da dt_X12_trial 36 rfl) rfl ?_
        refine wr_getI wf_X12_131 (wg_da dt_X12_trial 37 rfl) hx0 ?_
        refine wr_iadd (wg_da dt_X12_trial 38 rfl) ?_
        refine wr_iconst (0 : Int32) (wg_da dt_X12_trial 39 rfl) (by decide) ?_
        refine wr_iast (wg_da dt_X12_trial 40 rfl) (wg_ty Sm_ok 12 1 0 hx0 rfl (by decide)).2 h (fun s8 h => ?_)
        refine wr_aload_n (wg_da dt_X12_trial 41 rfl) rfl ?_
        refine wr_getR wf_X12_7 (wg_da dt_X12_trial 42 rfl) hx0 ?_
        refine wr_sipush (281 : Int32) (wg_da dt_X12_trial 43 rfl) (by decide) ?_
        refine wr_aload_n (wg_da dt_X12_trial 44 rfl) rfl ?_
        refine wr_getI wf_X12_131 (wg_da dt_X12_trial 45 rfl) hx0 ?_
        refine wr_iadd (wg_da dt_X12_trial 46 rfl) ?_
        refine wr_iconst (0 : Int32) (wg_da dt_X12_trial 47 rfl) (by decide) ?_
        refine wr_iast (wg_da dt_X12_trial 48 rfl) (wg_ty Sm_ok 12 1 0 hx0 rfl (by decide)).2 h (fun s9 h => ?_)
        refine wr_aload_n (wg_da dt_X12_trial 49 rfl) rfl ?_
        refine wr_aload_n (wg_da dt_X12_trial 50 rfl) rfl ?_
        refine wr_getI wf_X12_131 (wg_da dt_X12_trial 51 rfl) hx0 ?_
        refine wr_iconst (1 : Int32) (wg_da dt_X12_trial 52 rfl) (by decide) ?_
        refine wr_iadd (wg_da dt_X12_trial 53 rfl) ?_
        refine wr_putI wfp_X12_131 (wg_da dt_X12_trial 54 rfl) hx0 h (fun s10 h => ?_)
        refine wr_aload_n (wg_da dt_X12_trial 55 rfl) rfl ?_
        refine wr_iconst (0 : Int32) (wg_da dt_X12_trial 56 rfl) (by decide) ?_
        refine wr_putI wfp_X12_116 (wg_da dt_X12_trial 57 rfl) hx0 h (fun s11 h => ?_)
        refine wr_aload_n (wg_da dt_X12_trial 58 rfl) rfl ?_
        refine wr_getI wf_X12_131 (wg_da dt_X12_trial 59 rfl) hx0 ?_
        refine wr_iconst (1 : Int32) (wg_da dt_X12_trial 60 rfl) (by decide) ?_
        refine wr_isub (wg_da dt_X12_trial 61 rfl) ?_
        exact wr_iret (wg_da dt_X12_trial 62 rfl) h
theorem m_X12_trial (l : Launch) (E : wg_E) (x0 : Nat) (x1 : Int32) (x2 : Int32) (hx0 : wg_t Sm x0 = 14) (σ : wg_M) (q : Int32 × wg_M) (h : f_X12_trial x0 x1 x2 σ = some q) : wg_MG l E Sm yX12_trial cX12_trial 3 (some .int) rm_X12_trial [.ref x0, .int x1, .int x2] σ (some q.1) q.2 :=
  wg_met [.ref x0, .int x1, .int x2] (plainFor_of_name (by decide)) (Nat.le_of_ble_eq_true rfl) (g_X12_trial_e l E x0 x1 x2 σ q hx0 h)
abbrev rm_X12_rule : Room := { frames := 4, cells := 0, slots := 0, locals := 96 }
def tb_X12_rule : List (Nat × Instr × Nat) := [(0, .aload_n 0, 1), (1, .iconst 0, 1), (2, .putfield 113, 3), (5, .aload_n 0, 1), (6, .iload_n 1, 1), (7, .invokevirtual 156, 3), (10, .ifCond .eq 52, 3), (13, .aload_n 0, 1), (14, .iload_n 2, 1), (15, .iconst 0, 1), (16, .bipush 7, 2), (18, .invokevirtual 153, 3), (21, .ifCond .eq 41, 3), (24, .aload_n 0, 1), (25, .iload_n 3, 1), (26, .bipush (-9), 2), (28, .bipush 9, 2), (30, .invokevirtual 153, 3), (33, .ifCond .eq 29, 3), (36, .aload_n 0, 1), (37, .iload 4, 2), (39, .iconst 1, 1), (40, .bipush 99, 2), (42, .invokevirtual 153, 3), (45, .ifCond .eq 17, 3), (48, .aload_n 0, 1), (49, .getfield 7, 3), (52, .bipush 67, 2), (54, .iload_n 1, 1), (55, .iadd, 1), (56, .iaload, 1), (57, .bipush 8, 2), (59, .if_icmp .ne 5, 3), (62, .iconst (-1), 1), (63, .ireturn, 1), (64, .aload_n 0, 1), (65, .iload_n 1, 1), (66, .iload_n 2, 1), (67, .iload_n 3, 1), (68, .iload 4, 2), (70, .invokevirtual 160, 3), (73, .aload_n 0, 1), (74, .iconst 0, 1), (75, .putfield 116, 3), (78, .aload_n 0, 1), (79, .getfield 7, 3), (82, .bipush 67, 2), (84, .iload_n 1, 1), (85, .iadd, 1), (86, .iaload, 1), (87, .ireturn, 1)]
theorem dt_X12_rule : wg_dc cX12_rule tb_X12_rule := by unfold wg_dc; decide +kernel
def f_X12_rule  (x0 : Nat) (x1 : Int32) (x2 : Int32) (x3 : Int32) (x4 : Int32) (σ : wg_M) : Option (Int32 × wg_M) := wg_st σ x0 0 (0 : Int32) (fun s1 => wg_bd (f_X12_isWig x0 x1 s1) (fun v2 s3 => if v2 = 0 then (some ((-1 : Int32), s3)) else (wg_bd (f_X12_isIn x0 x2 (0 : Int32) (7 : Int32) s3) (fun v4 s5 => if v4 = 0 then (some ((-1 : Int32), s5)) else (wg_bd (f_X12_isIn x0 x3 (-9 : Int32) (9 : Int32) s5) (fun v6 s7 => if v6 = 0 then (some ((-1 : Int32), s7)) else (wg_bd (f_X12_isIn x0 x4 (1 : Int32) (99 : Int32) s7) (fun v8 s9 => if v8 = 0 then (some ((-1 : Int32), s9)) else (wg_ga (wg_n Sm (wg_r Sm x0 1)) (s9 (wg_r Sm x0 1)) ((67 : Int32) + x1) (fun v10 => if v10 = (8 : Int32) then (some ((-1 : Int32), s9)) else (wg_bd (f_X12_comesRule x0 x1 x2 x3 x4 s9) (fun _ s11 => wg_st s11 x0 3 (0 : Int32) (fun s12 => wg_ga (wg_n Sm (wg_r Sm x0 1)) (s12 (wg_r Sm x0 1)) ((67 : Int32) + x1) (fun v13 => some (v13, s12)))))))))))))))
set_option maxRecDepth 20000 in
theorem g_X12_rule_e (l : Launch) (E : wg_E)  (x0 : Nat) (x1 : Int32) (x2 : Int32) (x3 : Int32) (x4 : Int32) (σ : wg_M) (z : Int32 × wg_M) (hx0 : wg_t Sm x0 = 14) (h : f_X12_rule  x0 x1 x2 x3 x4 σ = some z) : wg_G l E Sm "WornWigsModel" cX12_rule 5 (some .int) rm_X12_rule (some z.1) z.2 0 [some (.ref x0), some (.int x1), some (.int x2), some (.int x3), some (.int x4)] [] σ := by
  refine wr_aload_n (wg_da dt_X12_rule 0 rfl) rfl ?_
  refine wr_iconst (0 : Int32) (wg_da dt_X12_rule 1 rfl) (by decide) ?_
  refine wr_putI wfp_X12_113 (wg_da dt_X12_rule 2 rfl) hx0 h (fun s1 h => ?_)
  refine wr_aload_n (wg_da dt_X12_rule 3 rfl) rfl ?_
  refine wr_iload_n (wg_da dt_X12_rule 4 rfl) rfl ?_
  refine wr_callVi [.int x1] [] (wg_da dt_X12_rule 5 rfl) ⟨wq_7_98, wq_7_100, wq_p4_4⟩ hx0 ⟨rfl, by decide⟩ wy_X12_isWig (fun q hq => m_X12_isWig l E x0 x1 hx0 _ q hq) rfl rfl (Nat.le_of_ble_eq_true rfl) ⟨rfl, rfl, by decide, by decide⟩ h (fun v2 s3 h => ?_)
  refine wr_if_eq 62 (wg_da dt_X12_rule 6 rfl) (by decide) h (fun h => ?_) (fun h => ?_)
  · refine wr_iconst (-1 : Int32) (wg_da dt_X12_rule 33 rfl) (by decide) ?_
    exact wr_iret (wg_da dt_X12_rule 34 rfl) h
  · refine wr_aload_n (wg_da dt_X12_rule 7 rfl) rfl ?_
    refine wr_iload_n (wg_da dt_X12_rule 8 rfl) rfl ?_
    refine wr_iconst (0 : Int32) (wg_da dt_X12_rule 9 rfl) (by decide) ?_
    refine wr_bipush (7 : Int32) (wg_da dt_X12_rule 10 rfl) (by decide) ?_
    refine wr_callVi [.int x2, .int (0 : Int32), .int (7 : Int32)] [] (wg_da dt_X12_rule 11 rfl) ⟨wq_7_82, wq_7_84, wq_p4_3⟩ hx0 ⟨rfl, by decide⟩ wy_X12_isIn (fun q hq => m_X12_isIn l E x0 x2 (0 : Int32) (7 : Int32) hx0 _ q hq) rfl rfl (Nat.le_of_ble_eq_true rfl) ⟨rfl, rfl, by decide, by decide⟩ h (fun v4 s5 h => ?_)
    refine wr_if_eq 62 (wg_da dt_X12_rule 12 rfl) (by decide) h (fun h => ?_) (fun h => ?_)
    · refine wr_iconst (-1 : Int32) (wg_da dt_X12_rule 33 rfl) (by decide) ?_
      exact wr_iret (wg_da dt_X12_rule 34 rfl) h
    · refine wr_aload_n (wg_da dt_X12_rule 13 rfl) rfl ?_
      refine wr_iload_n (wg_da dt_X12_rule 14 rfl) rfl ?_
      refine wr_bipush (-9 : Int32) (wg_da dt_X12_rule 15 rfl) (by decide) ?_
      refine wr_bipush (9 : Int32) (wg_da dt_X12_rule 16 rfl) (by decide) ?_
      refine wr_callVi [.int x3, .int (-9 : Int32), .int (9 : Int32)] [] (wg_da dt_X12_rule 17 rfl) ⟨wq_7_82, wq_7_84, wq_p4_3⟩ hx0 ⟨rfl, by decide⟩ wy_X12_isIn (fun q hq => m_X12_isIn l E x0 x3 (-9 : Int32) (9 : Int32) hx0 _ q hq) rfl rfl (Nat.le_of_ble_eq_true rfl) ⟨rfl, rfl, by decide, by decide⟩ h (fun v6 s7 h => ?_)
      refine wr_if_eq 62 (wg_da dt_X12_rule 18 rfl) (by decide) h (fun h => ?_) (fun h => ?_)
      · refine wr_iconst (-1 : Int32) (wg_da dt_X12_rule 33 rfl) (by decide) ?_
        exact wr_iret (wg_da dt_X12_rule 34 rfl) h
      · refine wr_aload_n (wg_da dt_X12_rule 19 rfl) rfl ?_
        refine wr_iload (wg_da dt_X12_rule 20 rfl) rfl ?_
        refine wr_iconst (1 : Int32) (wg_da dt_X12_rule 21 rfl) (by decide) ?_
        refine wr_bipush (99 : Int32) (wg_da dt_X12_rule 22 rfl) (by decide) ?_
        refine wr_callVi [.int x4, .int (1 : Int32), .int (99 : Int32)] [] (wg_da dt_X12_rule 23 rfl) ⟨wq_7_82, wq_7_84, wq_p4_3⟩ hx0 ⟨rfl, by decide⟩ wy_X12_isIn (fun q hq => m_X12_isIn l E x0 x4 (1 : Int32) (99 : Int32) hx0 _ q hq) rfl rfl (Nat.le_of_ble_eq_true rfl) ⟨rfl, rfl, by decide, by decide⟩ h (fun v8 s9 h => ?_)
        refine wr_if_eq 62 (wg_da dt_X12_rule 24 rfl) (by decide) h (fun h => ?_) (fun h => ?_)
        · refine wr_iconst (-1 : Int32) (wg_da dt_X12_rule 33 rfl) (by decide) ?_
          exact wr_iret (wg_da dt_X12_rule 34 rfl) h
        · refine wr_aload_n (wg_da dt_X12_rule 25 rfl) rfl ?_
          refine wr_getR wf_X12_7 (wg_da dt_X12_rule 26 rfl) hx0 ?_
          refine wr_bipush (67 : Int32) (wg_da dt_X12_rule 27 rfl) (by decide) ?_
          refine wr_iload_n (wg_da dt_X12_rule 28 rfl) rfl ?_
          refine wr_iadd (wg_da dt_X12_rule 29 rfl) ?_
          refine wr_iald (wg_da dt_X12_rule 30 rfl) (wg_ty Sm_ok 12 1 0 hx0 rfl (by decide)).2 h (fun v10 h => ?_)
          refine wr_bipush (8 : Int32) (wg_da dt_X12_rule 31 rfl) (by decide) ?_
          refine wr_icmp_ne 64 (wg_da dt_X12_rule 32 rfl) (by decide) h (fun h => ?_) (fun h => ?_)
          · refine wr_iconst (-1 : Int32) (wg_da dt_X12_rule 33 rfl) (by decide) ?_
            exact wr_iret (wg_da dt_X12_rule 34 rfl) h
          · refine wr_aload_n (wg_da dt_X12_rule 35 rfl) rfl ?_
            refine wr_iload_n (wg_da dt_X12_rule 36 rfl) rfl ?_
            refine wr_iload_n (wg_da dt_X12_rule 37 rfl) rfl ?_
            refine wr_iload_n (wg_da dt_X12_rule 38 rfl) rfl ?_
            refine wr_iload (wg_da dt_X12_rule 39 rfl) rfl ?_
            refine wr_callVv [.int x1, .int x2, .int x3, .int x4] [] (wg_da dt_X12_rule 40 rfl) ⟨wq_7_102, wq_7_104, wq_p4_5⟩ hx0 ⟨rfl, by decide⟩ wy_X12_comesRule (fun q hq => m_X12_comesRule l E x0 x1 x2 x3 x4 hx0 _ q hq) rfl rfl (Nat.le_of_ble_eq_true rfl) ⟨rfl, rfl, by decide, by decide⟩ h (fun _ s11 h => ?_)
            refine wr_aload_n (wg_da dt_X12_rule 41 rfl) rfl ?_
            refine wr_iconst (0 : Int32) (wg_da dt_X12_rule 42 rfl) (by decide) ?_
            refine wr_putI wfp_X12_116 (wg_da dt_X12_rule 43 rfl) hx0 h (fun s12 h => ?_)
            refine wr_aload_n (wg_da dt_X12_rule 44 rfl) rfl ?_
            refine wr_getR wf_X12_7 (wg_da dt_X12_rule 45 rfl) hx0 ?_
            refine wr_bipush (67 : Int32) (wg_da dt_X12_rule 46 rfl) (by decide) ?_
            refine wr_iload_n (wg_da dt_X12_rule 47 rfl) rfl ?_
            refine wr_iadd (wg_da dt_X12_rule 48 rfl) ?_
            refine wr_iald (wg_da dt_X12_rule 49 rfl) (wg_ty Sm_ok 12 1 0 hx0 rfl (by decide)).2 h (fun v13 h => ?_)
            exact wr_iret (wg_da dt_X12_rule 50 rfl) h
theorem m_X12_rule (l : Launch) (E : wg_E) (x0 : Nat) (x1 : Int32) (x2 : Int32) (x3 : Int32) (x4 : Int32) (hx0 : wg_t Sm x0 = 14) (σ : wg_M) (q : Int32 × wg_M) (h : f_X12_rule x0 x1 x2 x3 x4 σ = some q) : wg_MG l E Sm yX12_rule cX12_rule 5 (some .int) rm_X12_rule [.ref x0, .int x1, .int x2, .int x3, .int x4] σ (some q.1) q.2 :=
  wg_met [.ref x0, .int x1, .int x2, .int x3, .int x4] (plainFor_of_name (by decide)) (Nat.le_of_ble_eq_true rfl) (g_X12_rule_e l E x0 x1 x2 x3 x4 σ q hx0 h)
abbrev rm_X12_canSet : Room := { frames := 1, cells := 0, slots := 0, locals := 23 }
def tb_X12_canSet : List (Nat × Instr × Nat) := [(0, .iload_n 1, 1), (1, .ifCond .ne 28, 3), (4, .aload_n 0, 1), (5, .iload_n 2, 1), (6, .invokevirtual 164, 3), (9, .ifCond .eq 18, 3), (12, .aload_n 0, 1), (13, .iload_n 3, 1), (14, .iconst 0, 1), (15, .bipush 120, 2), (17, .invokevirtual 153, 3), (20, .ifCond .eq 7, 3), (23, .iconst 1, 1), (24, .goto 4, 3), (27, .iconst 0, 1), (28, .ireturn, 1), (29, .iload_n 1, 1), (30, .iconst 1, 1), (31, .if_icmp .ne 29, 3), (34, .aload_n 0, 1), (35, .iload_n 2, 1), (36, .invokevirtual 164, 3), (39, .ifCond .eq 19, 3), (42, .aload_n 0, 1), (43, .iload_n 3, 1), (44, .bipush (-9), 2), (46, .bipush 9, 2), (48, .invokevirtual 153, 3), (51, .ifCond .eq 7, 3), (54, .iconst 1, 1), (55, .goto 4, 3), (58, .iconst 0, 1), (59, .ireturn, 1), (60, .iload_n 1, 1), (61, .iconst 2, 1), (62, .if_icmp .ne 28, 3), (65, .aload_n 0, 1), (66, .iload_n 2, 1), (67, .invokevirtual 156, 3), (70, .ifCond .eq 18, 3), (73, .aload_n 0, 1), (74, .iload_n 3, 1), (75, .iconst 0, 1), (76, .bipush 99, 2), (78, .invokevirtual 153, 3), (81, .ifCond .eq 7, 3), (84, .iconst 1, 1), (85, .goto 4, 3), (88, .iconst 0, 1), (89, .ireturn, 1), (90, .iload_n 1, 1), (91, .iconst 3, 1), (92, .if_icmp .ne 27, 3), (95, .aload_n 0, 1), (96, .iload_n 2, 1), (97, .invokevirtual 167, 3), (100, .ifCond .eq 19, 3), (103, .aload_n 0, 1), (104, .iload_n 3, 1), (105, .bipush (-99), 2), (107, .bipush 99, 2), (109, .invokevirtual 153, 3), (112, .ifCond .eq 7, 3), (115, .iconst 1, 1), (116, .goto 4, 3), (119, .iconst 0, 1), (120, .ireturn, 1)]
theorem dt_X12_canSet : wg_dc cX12_canSet tb_X12_canSet := by unfold wg_dc; decide +kernel
def f_X12_canSet  (x0 : Nat) (x1 : Int32) (x2 : Int32) (x3 : Int32) (σ : wg_M) : Option (Int32 × wg_M) := if x1 = 0 then (wg_bd (f_X12_isJudge x0 x2 σ) (fun v13 s14 => if v13 = 0 then (some ((0 : Int32), s14)) else (wg_bd (f_X12_isIn x0 x3 (0 : Int32) (120 : Int32) s14) (fun v15 s16 => if v15 = 0 then (some ((0 : Int32), s16)) else (some ((1 : Int32), s16)))))) else (if x1 = (1 : Int32) then (wg_bd (f_X12_isJudge x0 x2 σ) (fun v9 s10 => if v9 = 0 then (some ((0 : Int32), s10)) else (wg_bd (f_X12_isIn x0 x3 (-9 : Int32) (9 : Int32) s10) (fun v11 s12 => if v11 = 0 then (some ((0 : Int32), s12)) else (some ((1 : Int32), s12)))))) else (if x1 = (2 : Int32) then (wg_bd (f_X12_isWig x0 x2 σ) (fun v5 s6 => if v5 = 0 then (some ((0 : Int32), s6)) else (wg_bd (f_X12_isIn x0 x3 (0 : Int32) (99 : Int32) s6) (fun v7 s8 => if v7 = 0 then (some ((0 : Int32), s8)) else (some ((1 : Int32), s8)))))) else (if x1 = (3 : Int32) then (wg_bd (f_X12_isTrial x0 x2 σ) (fun v1 s2 => if v1 = 0 then (some ((0 : Int32), s2)) else (wg_bd (f_X12_isIn x0 x3 (-99 : Int32) (99 : Int32) s2) (fun v3 s4 => if v3 = 0 then (some ((0 : Int32), s4)) else (some ((1 : Int32), s4)))))) else (some ((0 : Int32), σ)))))
set_option maxRecDepth 20000 in
theorem g_X12_canSet_e (l : Launch) (E : wg_E)  (x0 : Nat) (x1 : Int32) (x2 : Int32) (x3 : Int32) (σ : wg_M) (z : Int32 × wg_M) (hx0 : wg_t Sm x0 = 14) (h : f_X12_canSet  x0 x1 x2 x3 σ = some z) : wg_G l E Sm "WornWigsModel" cX12_canSet 4 (some .boolean) rm_X12_canSet (some z.1) z.2 0 [some (.ref x0), some (.int x1), some (.int x2), some (.int x3)] [] σ := by
  refine wr_iload_n (wg_da dt_X12_canSet 0 rfl) rfl ?_
  refine wr_if_ne 29 (wg_da dt_X12_canSet 1 rfl) (by decide) h (fun h => ?_) (fun h => ?_)
  · refine wr_aload_n (wg_da dt_X12_canSet 2 rfl) rfl ?_
    refine wr_iload_n (wg_da dt_X12_canSet 3 rfl) rfl ?_
    refine wr_callVi [.int x2] [] (wg_da dt_X12_canSet 4 rfl) ⟨wq_7_130, wq_7_132, wq_p4_11⟩ hx0 ⟨rfl, by decide⟩ wy_X12_isJudge (fun q hq => m_X12_isJudge l E x0 x2 hx0 _ q hq) rfl rfl (Nat.le_of_ble_eq_true rfl) ⟨rfl, rfl, by decide, by decide⟩ h (fun v13 s14 h => ?_)
    refine wr_if_eq 27 (wg_da dt_X12_canSet 5 rfl) (by decide) h (fun h => ?_) (fun h => ?_)
    · refine wr_iconst (0 : Int32) (wg_da dt_X12_canSet 14 rfl) (by decide) ?_
      exact wr_zret0 (wg_da dt_X12_canSet 15 rfl) h
    · refine wr_aload_n (wg_da dt_X12_canSet 6 rfl) rfl ?_
      refine wr_iload_n (wg_da dt_X12_canSet 7 rfl) rfl ?_
      refine wr_iconst (0 : Int32) (wg_da dt_X12_canSet 8 rfl) (by decide) ?_
      refine wr_bipush (120 : Int32) (wg_da dt_X12_canSet 9 rfl) (by decide) ?_
      refine wr_callVi [.int x3, .int (0 : Int32), .int (120 : Int32)] [] (wg_da dt_X12_canSet 10 rfl) ⟨wq_7_82, wq_7_84, wq_p4_3⟩ hx0 ⟨rfl, by decide⟩ wy_X12_isIn (fun q hq => m_X12_isIn l E x0 x3 (0 : Int32) (120 : Int32) hx0 _ q hq) rfl rfl (Nat.le_of_ble_eq_true rfl) ⟨rfl, rfl, by decide, by decide⟩ h (fun v15 s16 h => ?_)
      refine wr_if_eq 27 (wg_da dt_X12_canSet 11 rfl) (by decide) h (fun h => ?_) (fun h => ?_)
      · refine wr_iconst (0 : Int32) (wg_da dt_X12_canSet 14 rfl) (by decide) ?_
        exact wr_zret0 (wg_da dt_X12_canSet 15 rfl) h
      · refine wr_iconst (1 : Int32) (wg_da dt_X12_canSet 12 rfl) (by decide) ?_
        refine wr_goto 28 (wg_da dt_X12_canSet 13 rfl) (by decide) ?_
        exact wr_zret1 (wg_da dt_X12_canSet 15 rfl) h
  · refine wr_iload_n (wg_da dt_X12_canSet 16 rfl) rfl ?_
    refine wr_iconst (1 : Int32) (wg_da dt_X12_canSet 17 rfl) (by decide) ?_
    refine wr_icmp_ne 60 (wg_da dt_X12_canSet 18 rfl) (by decide) h (fun h => ?_) (fun h => ?_)
    · refine wr_aload_n (wg_da dt_X12_canSet 19 rfl) rfl ?_
      refine wr_iload_n (wg_da dt_X12_canSet 20 rfl) rfl ?_
      refine wr_callVi [.int x2] [] (wg_da dt_X12_canSet 21 rfl) ⟨wq_7_130, wq_7_132, wq_p4_11⟩ hx0 ⟨rfl, by decide⟩ wy_X12_isJudge (fun q hq => m_X12_isJudge l E x0 x2 hx0 _ q hq) rfl rfl (Nat.le_of_ble_eq_true rfl) ⟨rfl, rfl, by decide, by decide⟩ h (fun v9 s10 h => ?_)
      refine wr_if_eq 58 (wg_da dt_X12_canSet 22 rfl) (by decide) h (fun h => ?_) (fun h => ?_)
      · refine wr_iconst (0 : Int32) (wg_da dt_X12_canSet 31 rfl) (by decide) ?_
        exact wr_zret0 (wg_da dt_X12_canSet 32 rfl) h
      · refine wr_aload_n (wg_da dt_X12_canSet 23 rfl) rfl ?_
        refine wr_iload_n (wg_da dt_X12_canSet 24 rfl) rfl ?_
        refine wr_bipush (-9 : Int32) (wg_da dt_X12_canSet 25 rfl) (by decide) ?_
        refine wr_bipush (9 : Int32) (wg_da dt_X12_canSet 26 rfl) (by decide) ?_
        refine wr_callVi [.int x3, .int (-9 : Int32), .int (9 : Int32)] [] (wg_da dt_X12_canSet 27 rfl) ⟨wq_7_82, wq_7_84, wq_p4_3⟩ hx0 ⟨rfl, by decide⟩ wy_X12_isIn (fun q hq => m_X12_isIn l E x0 x3 (-9 : Int32) (9 : Int32) hx0 _ q hq) rfl rfl (Nat.le_of_ble_eq_true rfl) ⟨rfl, rfl, by decide, by decide⟩ h (fun v11 s12 h => ?_)
        refine wr_if_eq 58 (wg_da dt_X12_canSet 28 rfl) (by decide) h (fun h => ?_) (fun h => ?_)
        · refine wr_iconst (0 : Int32) (wg_da dt_X12_canSet 31 rfl) (by decide) ?_
          exact wr_zret0 (wg_da dt_X12_canSet 32 rfl) h
        · refine wr_iconst (1 : Int32) (wg_da dt_X12_canSet 29 rfl) (by decide) ?_
          refine wr_goto 59 (wg_da dt_X12_canSet 30 rfl) (by decide) ?_
          exact wr_zret1 (wg_da dt_X12_canSet 32 rfl) h
    · refine wr_iload_n (wg_da dt_X12_canSet 33 rfl) rfl ?_
      refine wr_iconst (2 : Int32) (wg_da dt_X12_canSet 34 rfl) (by decide) ?_
      refine wr_icmp_ne 90 (wg_da dt_X12_canSet 35 rfl) (by decide) h (fun h => ?_) (fun h => ?_)
      · refine wr_aload_n (wg_da dt_X12_canSet 36 rfl) rfl ?_
        refine wr_iload_n (wg_da dt_X12_canSet 37 rfl) rfl ?_
        refine wr_callVi [.int x2] [] (wg_da dt_X12_canSet 38 rfl) ⟨wq_7_98, wq_7_100, wq_p4_4⟩ hx0 ⟨rfl, by decide⟩ wy_X12_isWig (fun q hq => m_X12_isWig l E x0 x2 hx0 _ q hq) rfl rfl (Nat.le_of_ble_eq_true rfl) ⟨rfl, rfl, by decide, by decide⟩ h (fun v5 s6 h => ?_)
        refine wr_if_eq 88 (wg_da dt_X12_canSet 39 rfl) (by decide) h (fun h => ?_) (fun h => ?_)
        · refine wr_iconst (0 : Int32) (wg_da dt_X12_canSet 48 rfl) (by decide) ?_
          exact wr_zret0 (wg_da dt_X12_canSet 49 rfl) h
        · refine wr_aload_n (wg_da dt_X12_canSet 40 rfl) rfl ?_
          refine wr_iload_n (wg_da dt_X12_canSet 41 rfl) rfl ?_
          refine wr_iconst (0 : Int32) (wg_da dt_X12_canSet 42 rfl) (by decide) ?_
          refine wr_bipush (99 : Int32) (wg_da dt_X12_canSet 43 rfl) (by decide) ?_
          refine wr_callVi [.int x3, .int (0 : Int32), .int (99 : Int32)] [] (wg_da dt_X12_canSet 44 rfl) ⟨wq_7_82, wq_7_84, wq_p4_3⟩ hx0 ⟨rfl, by decide⟩ wy_X12_isIn (fun q hq => m_X12_isIn l E x0 x3 (0 : Int32) (99 : Int32) hx0 _ q hq) rfl rfl (Nat.le_of_ble_eq_true rfl) ⟨rfl, rfl, by decide, by decide⟩ h (fun v7 s8 h => ?_)
          refine wr_if_eq 88 (wg_da dt_X12_canSet 45 rfl) (by decide) h (fun h => ?_) (fun h => ?_)
          · refine wr_iconst (0 : Int32) (wg_da dt_X12_canSet 48 rfl) (by decide) ?_
            exact wr_zret0 (wg_da dt_X12_canSet 49 rfl) h
          · refine wr_iconst (1 : Int32) (wg_da dt_X12_canSet 46 rfl) (by decide) ?_
            refine wr_goto 89 (wg_da dt_X12_canSet 47 rfl) (by decide) ?_
            exact wr_zret1 (wg_da dt_X12_canSet 49 rfl) h
      · refine wr_iload_n (wg_da dt_X12_canSet 50 rfl) rfl ?_
        refine wr_iconst (3 : Int32) (wg_da dt_X12_canSet 51 rfl) (by decide) ?_
        refine wr_icmp_ne 119 (wg_da dt_X12_canSet 52 rfl) (by decide) h (fun h => ?_) (fun h => ?_)
        · refine wr_aload_n (wg_da dt_X12_canSet 53 rfl) rfl ?_
          refine wr_iload_n (wg_da dt_X12_canSet 54 rfl) rfl ?_
          refine wr_callVi [.int x2] [] (wg_da dt_X12_canSet 55 rfl) ⟨wq_7_134, wq_7_136, wq_p4_12⟩ hx0 ⟨rfl, by decide⟩ wy_X12_isTrial (fun q hq => m_X12_isTrial l E x0 x2 hx0 _ q hq) rfl rfl (Nat.le_of_ble_eq_true rfl) ⟨rfl, rfl, by decide, by decide⟩ h (fun v1 s2 h => ?_)
          refine wr_if_eq 119 (wg_da dt_X12_canSet 56 rfl) (by decide) h (fun h => ?_) (fun h => ?_)
          · refine wr_iconst (0 : Int32) (wg_da dt_X12_canSet 65 rfl) (by decide) ?_
            exact wr_zret0 (wg_da dt_X12_canSet 66 rfl) h
          · refine wr_aload_n (wg_da dt_X12_canSet 57 rfl) rfl ?_
            refine wr_iload_n (wg_da dt_X12_canSet 58 rfl) rfl ?_
            refine wr_bipush (-99 : Int32) (wg_da dt_X12_canSet 59 rfl) (by decide) ?_
            refine wr_bipush (99 : Int32) (wg_da dt_X12_canSet 60 rfl) (by decide) ?_
            refine wr_callVi [.int x3, .int (-99 : Int32), .int (99 : Int32)] [] (wg_da dt_X12_canSet 61 rfl) ⟨wq_7_82, wq_7_84, wq_p4_3⟩ hx0 ⟨rfl, by decide⟩ wy_X12_isIn (fun q hq => m_X12_isIn l E x0 x3 (-99 : Int32) (99 : Int32) hx0 _ q hq) rfl rfl (Nat.le_of_ble_eq_true rfl) ⟨rfl, rfl, by decide, by decide⟩ h (fun v3 s4 h => ?_)
            refine wr_if_eq 119 (wg_da dt_X12_canSet 62 rfl) (by decide) h (fun h => ?_) (fun h => ?_)
            · refine wr_iconst (0 : Int32) (wg_da dt_X12_canSet 65 rfl) (by decide) ?_
              exact wr_zret0 (wg_da dt_X12_canSet 66 rfl) h
            · refine wr_iconst (1 : Int32) (wg_da dt_X12_canSet 63 rfl) (by decide) ?_
              refine wr_goto 120 (wg_da dt_X12_canSet 64 rfl) (by decide) ?_
              exact wr_zret1 (wg_da dt_X12_canSet 66 rfl) h
        · refine wr_iconst (0 : Int32) (wg_da dt_X12_canSet 65 rfl) (by decide) ?_
          exact wr_zret0 (wg_da dt_X12_canSet 66 rfl) h
theorem m_X12_canSet (l : Launch) (E : wg_E) (x0 : Nat) (x1 : Int32) (x2 : Int32) (x3 : Int32) (hx0 : wg_t Sm x0 = 14) (σ : wg_M) (q : Int32 × wg_M) (h : f_X12_canSet x0 x1 x2 x3 σ = some q) : wg_MG l E Sm yX12_canSet cX12_canSet 4 (some .boolean) rm_X12_canSet [.ref x0, .int x1, .int x2, .int x3] σ (some q.1) q.2 :=
  wg_met [.ref x0, .int x1, .int x2, .int x3] (plainFor_of_name (by decide)) (Nat.le_of_ble_eq_true rfl) (g_X12_canSet_e l E x0 x1 x2 x3 σ q hx0 h)
abbrev rm_X12_set : Room := { frames := 2, cells := 0, slots := 0, locals := 46 }
def tb_X12_set : List (Nat × Instr × Nat) := [(0, .aload_n 0, 1), (1, .iconst 0, 1), (2, .putfield 113, 3), (5, .aload_n 0, 1), (6, .iload_n 1, 1), (7, .iload_n 2, 1), (8, .iload_n 3, 1), (9, .invokevirtual 170, 3), (12, .ifCond .ne 5, 3), (15, .iconst 0, 1), (16, .ireturn, 1), (17, .iload_n 1, 1), (18, .ifCond .ne 12, 3), (21, .aload_n 0, 1), (22, .getfield 7, 3), (25, .iconst 3, 1), (26, .iload_n 2, 1), (27, .iadd, 1), (28, .iload_n 3, 1), (29, .iastore, 1), (30, .iload_n 1, 1), (31, .iconst 1, 1), (32, .if_icmp .ne 10, 3), (35, .aload_n 0, 1), (36, .getfield 22, 3), (39, .iload_n 2, 1), (40, .iload_n 3, 1), (41, .iastore, 1), (42, .iload_n 1, 1), (43, .iconst 2, 1), (44, .if_icmp .ne 13, 3), (47, .aload_n 0, 1), (48, .getfield 7, 3), (51, .bipush 43, 2), (53, .iload_n 2, 1), (54, .iadd, 1), (55, .iload_n 3, 1), (56, .iastore, 1), (57, .iload_n 1, 1), (58, .iconst 3, 1), (59, .if_icmp .ne 10, 3), (62, .aload_n 0, 1), (63, .getfield 28, 3), (66, .iload_n 2, 1), (67, .iload_n 3, 1), (68, .iastore, 1), (69, .aload_n 0, 1), (70, .iconst 0, 1), (71, .putfield 116, 3), (74, .iconst 1, 1), (75, .ireturn, 1)]
theorem dt_X12_set : wg_dc cX12_set tb_X12_set := by unfold wg_dc; decide +kernel
def f_X12_set_69  (x0 : Nat) (σ : wg_M) : Option (Int32 × wg_M) := wg_st σ x0 3 (0 : Int32) (fun s1 => some ((1 : Int32), s1))
def f_X12_set_57  (x0 : Nat) (x1 : Int32) (x2 : Int32) (x3 : Int32) (σ : wg_M) : Option (Int32 × wg_M) := if x1 = (3 : Int32) then (wg_sa (wg_n Sm (wg_r Sm x0 12)) σ (wg_r Sm x0 12) x2 x3 (fun s1 => f_X12_set_69  x0 s1)) else (f_X12_set_69  x0 σ)
def f_X12_set_42  (x0 : Nat) (x1 : Int32) (x2 : Int32) (x3 : Int32) (σ : wg_M) : Option (Int32 × wg_M) := if x1 = (2 : Int32) then (wg_sa (wg_n Sm (wg_r Sm x0 1)) σ (wg_r Sm x0 1) ((43 : Int32) + x2) x3 (fun s1 => f_X12_set_57  x0 x1 x2 x3 s1)) else (f_X12_set_57  x0 x1 x2 x3 σ)
def f_X12_set_30  (x0 : Nat) (x1 : Int32) (x2 : Int32) (x3 : Int32) (σ : wg_M) : Option (Int32 × wg_M) := if x1 = (1 : Int32) then (wg_sa (wg_n Sm (wg_r Sm x0 10)) σ (wg_r Sm x0 10) x2 x3 (fun s1 => f_X12_set_42  x0 x1 x2 x3 s1)) else (f_X12_set_42  x0 x1 x2 x3 σ)
def f_X12_set  (x0 : Nat) (x1 : Int32) (x2 : Int32) (x3 : Int32) (σ : wg_M) : Option (Int32 × wg_M) := wg_st σ x0 0 (0 : Int32) (fun s1 => wg_bd (f_X12_canSet x0 x1 x2 x3 s1) (fun v2 s3 => if v2 = 0 then (some ((0 : Int32), s3)) else (if x1 = 0 then (wg_sa (wg_n Sm (wg_r Sm x0 1)) s3 (wg_r Sm x0 1) ((3 : Int32) + x2) x3 (fun s4 => f_X12_set_30  x0 x1 x2 x3 s4)) else (f_X12_set_30  x0 x1 x2 x3 s3))))
set_option maxRecDepth 20000 in
theorem g_X12_set_69 (l : Launch) (E : wg_E)  (x0 : Nat) (σ : wg_M) (z : Int32 × wg_M) (hx0 : wg_t Sm x0 = 14) (h : f_X12_set_69  x0 σ = some z) : wg_G l E Sm "WornWigsModel" cX12_set 4 (some .boolean) rm_X12_set (some z.1) z.2 69 [some (.ref x0), none, none, none] [] σ := by
  refine wr_aload_n (wg_da dt_X12_set 46 rfl) rfl ?_
  refine wr_iconst (0 : Int32) (wg_da dt_X12_set 47 rfl) (by decide) ?_
  refine wr_putI wfp_X12_116 (wg_da dt_X12_set 48 rfl) hx0 h (fun s1 h => ?_)
  refine wr_iconst (1 : Int32) (wg_da dt_X12_set 49 rfl) (by decide) ?_
  exact wr_zret1 (wg_da dt_X12_set 50 rfl) h
set_option maxRecDepth 20000 in
theorem g_X12_set_57 (l : Launch) (E : wg_E)  (x0 : Nat) (x1 : Int32) (x2 : Int32) (x3 : Int32) (σ : wg_M) (z : Int32 × wg_M) (hx0 : wg_t Sm x0 = 14) (h : f_X12_set_57  x0 x1 x2 x3 σ = some z) : wg_G l E Sm "WornWigsModel" cX12_set 4 (some .boolean) rm_X12_set (some z.1) z.2 57 [some (.ref x0), some (.int x1), some (.int x2), some (.int x3)] [] σ := by
  refine wr_iload_n (wg_da dt_X12_set 38 rfl) rfl ?_
  refine wr_iconst (3 : Int32) (wg_da dt_X12_set 39 rfl) (by decide) ?_
  refine wr_icmp_ne 69 (wg_da dt_X12_set 40 rfl) (by decide) h (fun h => ?_) (fun h => ?_)
  · refine wr_aload_n (wg_da dt_X12_set 41 rfl) rfl ?_
    refine wr_getR wf_X12_28 (wg_da dt_X12_set 42 rfl) hx0 ?_
    refine wr_iload_n (wg_da dt_X12_set 43 rfl) rfl ?_
    refine wr_iload_n (wg_da dt_X12_set 44 rfl) rfl ?_
    refine wr_iast (wg_da dt_X12_set 45 rfl) (wg_ty Sm_ok 12 12 0 hx0 rfl (by decide)).2 h (fun s1 h => ?_)
    exact wr_wk [true, false, false, false] (g_X12_set_69 l E  x0 s1 _ hx0  h)
  · exact wr_wk [true, false, false, false] (g_X12_set_69 l E  x0 σ _ hx0  h)
set_option maxRecDepth 20000 in
theorem g_X12_set_42 (l : Launch) (E : wg_E)  (x0 : Nat) (x1 : Int32) (x2 : Int32) (x3 : Int32) (σ : wg_M) (z : Int32 × wg_M) (hx0 : wg_t Sm x0 = 14) (h : f_X12_set_42  x0 x1 x2 x3 σ = some z) : wg_G l E Sm "WornWigsModel" cX12_set 4 (some .boolean) rm_X12_set (some z.1) z.2 42 [some (.ref x0), some (.int x1), some (.int x2), some (.int x3)] [] σ := by
  refine wr_iload_n (wg_da dt_X12_set 28 rfl) rfl ?_
  refine wr_iconst (2 : Int32) (wg_da dt_X12_set 29 rfl) (by decide) ?_
  refine wr_icmp_ne 57 (wg_da dt_X12_set 30 rfl) (by decide) h (fun h => ?_) (fun h => ?_)
  · refine wr_aload_n (wg_da dt_X12_set 31 rfl) rfl ?_
    refine wr_getR wf_X12_7 (wg_da dt_X12_set 32 rfl) hx0 ?_
    refine wr_bipush (43 : Int32) (wg_da dt_X12_set 33 rfl) (by decide) ?_
    refine wr_iload_n (wg_da dt_X12_set 34 rfl) rfl ?_
    refine wr_iadd (wg_da dt_X12_set 35 rfl) ?_
    refine wr_iload_n (wg_da dt_X12_set 36 rfl) rfl ?_
    refine wr_iast (wg_da dt_X12_set 37 rfl) (wg_ty Sm_ok 12 1 0 hx0 rfl (by decide)).2 h (fun s1 h => ?_)
    exact wr_wk [true, true, true, true] (g_X12_set_57 l E  x0 x1 x2 x3 s1 _ hx0  h)
  · exact wr_wk [true, true, true, true] (g_X12_set_57 l E  x0 x1 x2 x3 σ _ hx0  h)
set_option maxRecDepth 20000 in
theorem g_X12_set_30 (l : Launch) (E : wg_E)  (x0 : Nat) (x1 : Int32) (x2 : Int32) (x3 : Int32) (σ : wg_M) (z : Int32 × wg_M) (hx0 : wg_t Sm x0 = 14) (h : f_X12_set_30  x0 x1 x2 x3 σ = some z) : wg_G l E Sm "WornWigsModel" cX12_set 4 (some .boolean) rm_X12_set (some z.1) z.2 30 [some (.ref x0), some (.int x1), some (.int x2), some (.int x3)] [] σ := by
  refine wr_iload_n (wg_da dt_X12_set 20 rfl) rfl ?_
  refine wr_iconst (1 : Int32) (wg_da dt_X12_set 21 rfl) (by decide) ?_
  refine wr_icmp_ne 42 (wg_da dt_X12_set 22 rfl) (by decide) h (fun h => ?_) (fun h => ?_)
  · refine wr_aload_n (wg_da dt_X12_set 23 rfl) rfl ?_
    refine wr_getR wf_X12_22 (wg_da dt_X12_set 24 rfl) hx0 ?_
    refine wr_iload_n (wg_da dt_X12_set 25 rfl) rfl ?_
    refine wr_iload_n (wg_da dt_X12_set 26 rfl) rfl ?_
    refine wr_iast (wg_da dt_X12_set 27 rfl) (wg_ty Sm_ok 12 10 0 hx0 rfl (by decide)).2 h (fun s1 h => ?_)
    exact wr_wk [true, true, true, true] (g_X12_set_42 l E  x0 x1 x2 x3 s1 _ hx0  h)
  · exact wr_wk [true, true, true, true] (g_X12_set_42 l E  x0 x1 x2 x3 σ _ hx0  h)
set_option maxRecDepth 20000 in
theorem g_X12_set_e (l : Launch) (E : wg_E)  (x0 : Nat) (x1 : Int32) (x2 : Int32) (x3 : Int32) (σ : wg_M) (z : Int32 × wg_M) (hx0 : wg_t Sm x0 = 14) (h : f_X12_set  x0 x1 x2 x3 σ = some z) : wg_G l E Sm "WornWigsModel" cX12_set 4 (some .boolean) rm_X12_set (some z.1) z.2 0 [some (.ref x0), some (.int x1), some (.int x2), some (.int x3)] [] σ := by
  refine wr_aload_n (wg_da dt_X12_set 0 rfl) rfl ?_
  refine wr_iconst (0 : Int32) (wg_da dt_X12_set 1 rfl) (by decide) ?_
  refine wr_putI wfp_X12_113 (wg_da dt_X12_set 2 rfl) hx0 h (fun s1 h => ?_)
  refine wr_aload_n (wg_da dt_X12_set 3 rfl) rfl ?_
  refine wr_iload_n (wg_da dt_X12_set 4 rfl) rfl ?_
  refine wr_iload_n (wg_da dt_X12_set 5 rfl) rfl ?_
  refine wr_iload_n (wg_da dt_X12_set 6 rfl) rfl ?_
  refine wr_callVi [.int x1, .int x2, .int x3] [] (wg_da dt_X12_set 7 rfl) ⟨wq_7_126, wq_7_128, wq_p4_10⟩ hx0 ⟨rfl, by decide⟩ wy_X12_canSet (fun q hq => m_X12_canSet l E x0 x1 x2 x3 hx0 _ q hq) rfl rfl (Nat.le_of_ble_eq_true rfl) ⟨rfl, rfl, by decide, by decide⟩ h (fun v2 s3 h => ?_)
  refine wr_if_ne 17 (wg_da dt_X12_set 8 rfl) (by decide) h (fun h => ?_) (fun h => ?_)
  · refine wr_iconst (0 : Int32) (wg_da dt_X12_set 9 rfl) (by decide) ?_
    exact wr_zret0 (wg_da dt_X12_set 10 rfl) h
  · refine wr_iload_n (wg_da dt_X12_set 11 rfl) rfl ?_
    refine wr_if_ne 30 (wg_da dt_X12_set 12 rfl) (by decide) h (fun h => ?_) (fun h => ?_)
    · refine wr_aload_n (wg_da dt_X12_set 13 rfl) rfl ?_
      refine wr_getR wf_X12_7 (wg_da dt_X12_set 14 rfl) hx0 ?_
      refine wr_iconst (3 : Int32) (wg_da dt_X12_set 15 rfl) (by decide) ?_
      refine wr_iload_n (wg_da dt_X12_set 16 rfl) rfl ?_
      refine wr_iadd (wg_da dt_X12_set 17 rfl) ?_
      refine wr_iload_n (wg_da dt_X12_set 18 rfl) rfl ?_
      refine wr_iast (wg_da dt_X12_set 19 rfl) (wg_ty Sm_ok 12 1 0 hx0 rfl (by decide)).2 h (fun s4 h => ?_)
      exact wr_wk [true, true, true, true] (g_X12_set_30 l E  x0 x1 x2 x3 s4 _ hx0  h)
    · exact wr_wk [true, true, true, true] (g_X12_set_30 l E  x0 x1 x2 x3 s3 _ hx0  h)
theorem m_X12_set (l : Launch) (E : wg_E) (x0 : Nat) (x1 : Int32) (x2 : Int32) (x3 : Int32) (hx0 : wg_t Sm x0 = 14) (σ : wg_M) (q : Int32 × wg_M) (h : f_X12_set x0 x1 x2 x3 σ = some q) : wg_MG l E Sm yX12_set cX12_set 4 (some .boolean) rm_X12_set [.ref x0, .int x1, .int x2, .int x3] σ (some q.1) q.2 :=
  wg_met [.ref x0, .int x1, .int x2, .int x3] (plainFor_of_name (by decide)) (Nat.le_of_ble_eq_true rfl) (g_X12_set_e l E x0 x1 x2 x3 σ q hx0 h)
abbrev rm_X12_types : Room := { frames := 0, cells := 0, slots := 0, locals := 0 }
def tb_X12_types : List (Nat × Instr × Nat) := [(0, .bipush 24, 2), (2, .istore_n 2, 1), (3, .iload_n 2, 1), (4, .ifCond .lt 35, 3), (7, .aload_n 0, 1), (8, .getfield 34, 3), (11, .aload_n 0, 1), (12, .getfield 173, 3), (15, .iload_n 1, 1), (16, .iload_n 2, 1), (17, .ishr, 1), (18, .sipush 255, 3), (21, .iand, 1), (22, .iastore, 1), (23, .aload_n 0, 1), (24, .aload_n 0, 1), (25, .getfield 173, 3), (28, .iconst 1, 1), (29, .iadd, 1), (30, .putfield 173, 3), (33, .iinc 2 (-8), 3), (36, .goto (-33), 3), (39, .return_, 1)]
theorem dt_X12_types : wg_dc cX12_types tb_X12_types := by unfold wg_dc; decide +kernel
def f_X12_types_3  : Nat → Nat → Int32 → Int32 → wg_M → Option (Int32 × wg_M)
  | 0, _, _, _, _ => none
  | n + 1, x0, x1, x2, σ => if x2 < 0 then (some (0, σ)) else (wg_sa (wg_n Sm (wg_r Sm x0 14)) σ (wg_r Sm x0 14) (σ x0 15) ((x1 >>> (x2 &&& 31)) &&& (255 : Int32)) (fun s1 => wg_st s1 x0 15 ((s1 x0 15) + (1 : Int32)) (fun s2 => wg_let (x2 + (-8 : Int32)) (fun v3 => f_X12_types_3  n x0 x1 v3 s2))))
def f_X12_types  (x0 : Nat) (x1 : Int32) (σ : wg_M) : Option (Int32 × wg_M) := f_X12_types_3  wg_N x0 x1 (24 : Int32) σ
set_option maxRecDepth 20000 in
theorem g_X12_types_3 (l : Launch) (E : wg_E)  (z : Int32 × wg_M) : ∀ (n : Nat) (x0 : Nat) (x1 : Int32) (x2 : Int32) (σ : wg_M) (hx0 : wg_t Sm x0 = 14) (h : f_X12_types_3  n x0 x1 x2 σ = some z), wg_G l E Sm "WornWigsModel" cX12_types 3 none rm_X12_types none z.2 3 [some (.ref x0), some (.int x1), some (.int x2)] [] σ := by
  intro n
  induction n with
  | zero => intro x0 x1 x2 σ hx0 h; cases h
  | succ n ih =>
    intro x0 x1 x2 σ hx0 h
    refine wr_iload_n (wg_da dt_X12_types 2 rfl) rfl ?_
    refine wr_if_lt 39 (wg_da dt_X12_types 3 rfl) (by decide) h (fun h => ?_) (fun h => ?_)
    · exact wr_vret (wg_da dt_X12_types 22 rfl) h
    · refine wr_aload_n (wg_da dt_X12_types 4 rfl) rfl ?_
      refine wr_getR wf_X12_34 (wg_da dt_X12_types 5 rfl) hx0 ?_
      refine wr_aload_n (wg_da dt_X12_types 6 rfl) rfl ?_
      refine wr_getI wf_X12_173 (wg_da dt_X12_types 7 rfl) hx0 ?_
      refine wr_iload_n (wg_da dt_X12_types 8 rfl) rfl ?_
      refine wr_iload_n (wg_da dt_X12_types 9 rfl) rfl ?_
      refine wr_ishr (wg_da dt_X12_types 10 rfl) ?_
      refine wr_sipush (255 : Int32) (wg_da dt_X12_types 11 rfl) (by decide) ?_
      refine wr_iand (wg_da dt_X12_types 12 rfl) ?_
      refine wr_iast (wg_da dt_X12_types 13 rfl) (wg_ty Sm_ok 12 14 0 hx0 rfl (by decide)).2 h (fun s1 h => ?_)
      refine wr_aload_n (wg_da dt_X12_types 14 rfl) rfl ?_
      refine wr_aload_n (wg_da dt_X12_types 15 rfl) rfl ?_
      refine wr_getI wf_X12_173 (wg_da dt_X12_types 16 rfl) hx0 ?_
      refine wr_iconst (1 : Int32) (wg_da dt_X12_types 17 rfl) (by decide) ?_
      refine wr_iadd (wg_da dt_X12_types 18 rfl) ?_
      refine wr_putI wfp_X12_173 (wg_da dt_X12_types 19 rfl) hx0 h (fun s2 h => ?_)
      refine wr_iinc (c0 := (-8 : Int32)) (wg_da dt_X12_types 20 rfl) rfl (by decide) (by decide) h (fun v3 h => ?_)
      refine wr_goto 3 (wg_da dt_X12_types 21 rfl) (by decide) ?_
      exact wr_wk [true, true, true] (ih x0 x1 v3 s2 hx0 h)
set_option maxRecDepth 20000 in
theorem g_X12_types_e (l : Launch) (E : wg_E)  (x0 : Nat) (x1 : Int32) (σ : wg_M) (z : Int32 × wg_M) (hx0 : wg_t Sm x0 = 14) (h : f_X12_types  x0 x1 σ = some z) : wg_G l E Sm "WornWigsModel" cX12_types 3 none rm_X12_types none z.2 0 [some (.ref x0), some (.int x1), none] [] σ := by
  refine wr_bipush (24 : Int32) (wg_da dt_X12_types 0 rfl) (by decide) ?_
  refine wr_istore_n (wg_da dt_X12_types 1 rfl) (by decide) ?_
  exact wr_wk [true, true, true] (g_X12_types_3 l E  _  wg_N x0 x1 (24 : Int32) σ hx0 h)
theorem m_X12_types (l : Launch) (E : wg_E) (x0 : Nat) (x1 : Int32) (hx0 : wg_t Sm x0 = 14) (σ : wg_M) (q : Int32 × wg_M) (h : f_X12_types x0 x1 σ = some q) : wg_MG l E Sm yX12_types cX12_types 3 none rm_X12_types [.ref x0, .int x1] σ none q.2 :=
  wg_met [.ref x0, .int x1] (plainFor_of_name (by decide)) (Nat.le_of_ble_eq_true rfl) (g_X12_types_e l E x0 x1 σ q hx0 h)
abbrev rm_X12_feed : Room := { frames := 1, cells := 0, slots := 0, locals := 22 }
def tb_X12_feed : List (Nat × Instr × Nat) := [(0, .aload_n 0, 1), (1, .iconst 0, 1), (2, .putfield 113, 3), (5, .aload_n 0, 1), (6, .getfield 173, 3), (9, .sipush 380, 3), (12, .if_icmp .le 5, 3), (15, .iconst (-1), 1), (16, .ireturn, 1), (17, .aload_n 0, 1), (18, .iload_n 1, 1), (19, .invokevirtual 176, 3), (22, .aload_n 0, 1), (23, .iload_n 2, 1), (24, .invokevirtual 176, 3), (27, .aload_n 0, 1), (28, .iload_n 3, 1), (29, .invokevirtual 176, 3), (32, .aload_n 0, 1), (33, .iload 4, 2), (35, .invokevirtual 176, 3), (38, .aload_n 0, 1), (39, .iload 5, 2), (41, .invokevirtual 176, 3), (44, .aload_n 0, 1), (45, .getfield 173, 3), (48, .ireturn, 1)]
theorem dt_X12_feed : wg_dc cX12_feed tb_X12_feed := by unfold wg_dc; decide +kernel
def f_X12_feed  (x0 : Nat) (x1 : Int32) (x2 : Int32) (x3 : Int32) (x4 : Int32) (x5 : Int32) (σ : wg_M) : Option (Int32 × wg_M) := wg_st σ x0 0 (0 : Int32) (fun s1 => if (s1 x0 15) ≤ (380 : Int32) then (wg_bd (f_X12_types x0 x1 s1) (fun _ s2 => wg_bd (f_X12_types x0 x2 s2) (fun _ s3 => wg_bd (f_X12_types x0 x3 s3) (fun _ s4 => wg_bd (f_X12_types x0 x4 s4) (fun _ s5 => wg_bd (f_X12_types x0 x5 s5) (fun _ s6 => some (s6 x0 15, s6))))))) else (some ((-1 : Int32), s1)))
set_option maxRecDepth 20000 in
theorem g_X12_feed_e (l : Launch) (E : wg_E)  (x0 : Nat) (x1 : Int32) (x2 : Int32) (x3 : Int32) (x4 : Int32) (x5 : Int32) (σ : wg_M) (z : Int32 × wg_M) (hx0 : wg_t Sm x0 = 14) (h : f_X12_feed  x0 x1 x2 x3 x4 x5 σ = some z) : wg_G l E Sm "WornWigsModel" cX12_feed 6 (some .int) rm_X12_feed (some z.1) z.2 0 [some (.ref x0), some (.int x1), some (.int x2), some (.int x3), some (.int x4), some (.int x5)] [] σ := by
  refine wr_aload_n (wg_da dt_X12_feed 0 rfl) rfl ?_
  refine wr_iconst (0 : Int32) (wg_da dt_X12_feed 1 rfl) (by decide) ?_
  refine wr_putI wfp_X12_113 (wg_da dt_X12_feed 2 rfl) hx0 h (fun s1 h => ?_)
  refine wr_aload_n (wg_da dt_X12_feed 3 rfl) rfl ?_
  refine wr_getI wf_X12_173 (wg_da dt_X12_feed 4 rfl) hx0 ?_
  refine wr_sipush (380 : Int32) (wg_da dt_X12_feed 5 rfl) (by decide) ?_
  refine wr_icmp_le 17 (wg_da dt_X12_feed 6 rfl) (by decide) h (fun h => ?_) (fun h => ?_)
  · refine wr_aload_n (wg_da dt_X12_feed 9 rfl) rfl ?_
    refine wr_iload_n (wg_da dt_X12_feed 10 rfl) rfl ?_
    refine wr_callVv [.int x1] [] (wg_da dt_X12_feed 11 rfl) ⟨wq_7_142, wq_7_144, wq_p4_13⟩ hx0 ⟨rfl, by decide⟩ wy_X12_types (fun q hq => m_X12_types l E x0 x1 hx0 _ q hq) rfl rfl (Nat.le_of_ble_eq_true rfl) ⟨rfl, rfl, by decide, by decide⟩ h (fun _ s2 h => ?_)
    refine wr_aload_n (wg_da dt_X12_feed 12 rfl) rfl ?_
    refine wr_iload_n (wg_da dt_X12_feed 13 rfl) rfl ?_
    refine wr_callVv [.int x2] [] (wg_da dt_X12_feed 14 rfl) ⟨wq_7_142, wq_7_144, wq_p4_13⟩ hx0 ⟨rfl, by decide⟩ wy_X12_types (fun q hq => m_X12_types l E x0 x2 hx0 _ q hq) rfl rfl (Nat.le_of_ble_eq_true rfl) ⟨rfl, rfl, by decide, by decide⟩ h (fun _ s3 h => ?_)
    refine wr_aload_n (wg_da dt_X12_feed 15 rfl) rfl ?_
    refine wr_iload_n (wg_da dt_X12_feed 16 rfl) rfl ?_
    refine wr_callVv [.int x3] [] (wg_da dt_X12_feed 17 rfl) ⟨wq_7_142, wq_7_144, wq_p4_13⟩ hx0 ⟨rfl, by decide⟩ wy_X12_types (fun q hq => m_X12_types l E x0 x3 hx0 _ q hq) rfl rfl (Nat.le_of_ble_eq_true rfl) ⟨rfl, rfl, by decide, by decide⟩ h (fun _ s4 h => ?_)
    refine wr_aload_n (wg_da dt_X12_feed 18 rfl) rfl ?_
    refine wr_iload (wg_da dt_X12_feed 19 rfl) rfl ?_
    refine wr_callVv [.int x4] [] (wg_da dt_X12_feed 20 rfl) ⟨wq_7_142, wq_7_144, wq_p4_13⟩ hx0 ⟨rfl, by decide⟩ wy_X12_types (fun q hq => m_X12_types l E x0 x4 hx0 _ q hq) rfl rfl (Nat.le_of_ble_eq_true rfl) ⟨rfl, rfl, by decide, by decide⟩ h (fun _ s5 h => ?_)
    refine wr_aload_n (wg_da dt_X12_feed 21 rfl) rfl ?_
    refine wr_iload (wg_da dt_X12_feed 22 rfl) rfl ?_
    refine wr_callVv [.int x5] [] (wg_da dt_X12_feed 23 rfl) ⟨wq_7_142, wq_7_144, wq_p4_13⟩ hx0 ⟨rfl, by decide⟩ wy_X12_types (fun q hq => m_X12_types l E x0 x5 hx0 _ q hq) rfl rfl (Nat.le_of_ble_eq_true rfl) ⟨rfl, rfl, by decide, by decide⟩ h (fun _ s6 h => ?_)
    refine wr_aload_n (wg_da dt_X12_feed 24 rfl) rfl ?_
    refine wr_getI wf_X12_173 (wg_da dt_X12_feed 25 rfl) hx0 ?_
    exact wr_iret (wg_da dt_X12_feed 26 rfl) h
  · refine wr_iconst (-1 : Int32) (wg_da dt_X12_feed 7 rfl) (by decide) ?_
    exact wr_iret (wg_da dt_X12_feed 8 rfl) h
theorem m_X12_feed (l : Launch) (E : wg_E) (x0 : Nat) (x1 : Int32) (x2 : Int32) (x3 : Int32) (x4 : Int32) (x5 : Int32) (hx0 : wg_t Sm x0 = 14) (σ : wg_M) (q : Int32 × wg_M) (h : f_X12_feed x0 x1 x2 x3 x4 x5 σ = some q) : wg_MG l E Sm yX12_feed cX12_feed 6 (some .int) rm_X12_feed [.ref x0, .int x1, .int x2, .int x3, .int x4, .int x5] σ (some q.1) q.2 :=
  wg_met [.ref x0, .int x1, .int x2, .int x3, .int x4, .int x5] (plainFor_of_name (by decide)) (Nat.le_of_ble_eq_true rfl) (g_X12_feed_e l E x0 x1 x2 x3 x4 x5 σ q hx0 h)
abbrev rm_X12_end : Room := { frames := 1, cells := 0, slots := 0, locals := 23 }
def tb_X12_end : List (Nat × Instr × Nat) := [(0, .aload_n 0, 1), (1, .iconst 0, 1), (2, .putfield 113, 3), (5, .aload_n 0, 1), (6, .iload_n 1, 1), (7, .iconst 0, 1), (8, .aload_n 0, 1), (9, .getfield 173, 3), (12, .invokevirtual 153, 3), (15, .ifCond .ne 5, 3), (18, .iconst 0, 1), (19, .ireturn, 1), (20, .aload_n 0, 1), (21, .iload_n 1, 1), (22, .putfield 173, 3), (25, .iconst 1, 1), (26, .ireturn, 1)]
theorem dt_X12_end : wg_dc cX12_end tb_X12_end := by unfold wg_dc; decide +kernel
def f_X12_end  (x0 : Nat) (x1 : Int32) (σ : wg_M) : Option (Int32 × wg_M) := wg_st σ x0 0 (0 : Int32) (fun s1 => wg_bd (f_X12_isIn x0 x1 (0 : Int32) (s1 x0 15) s1) (fun v2 s3 => if v2 = 0 then (some ((0 : Int32), s3)) else (wg_st s3 x0 15 x1 (fun s4 => some ((1 : Int32), s4)))))
set_option maxRecDepth 20000 in
theorem g_X12_end_e (l : Launch) (E : wg_E)  (x0 : Nat) (x1 : Int32) (σ : wg_M) (z : Int32 × wg_M) (hx0 : wg_t Sm x0 = 14) (h : f_X12_end  x0 x1 σ = some z) : wg_G l E Sm "WornWigsModel" cX12_end 2 (some .boolean) rm_X12_end (some z.1) z.2 0 [some (.ref x0), some (.int x1)] [] σ := by
  refine wr_aload_n (wg_da dt_X12_end 0 rfl) rfl ?_
  refine wr_iconst (0 : Int32) (wg_da dt_X12_end 1 rfl) (by decide) ?_
  refine wr_putI wfp_X12_113 (wg_da dt_X12_end 2 rfl) hx0 h (fun s1 h => ?_)
  refine wr_aload_n (wg_da dt_X12_end 3 rfl) rfl ?_
  refine wr_iload_n (wg_da dt_X12_end 4 rfl) rfl ?_
  refine wr_iconst (0 : Int32) (wg_da dt_X12_end 5 rfl) (by decide) ?_
  refine wr_aload_n (wg_da dt_X12_end 6 rfl) rfl ?_
  refine wr_getI wf_X12_173 (wg_da dt_X12_end 7 rfl) hx0 ?_
  refine wr_callVi [.int x1, .int (0 : Int32), .int (s1 x0 15)] [] (wg_da dt_X12_end 8 rfl) ⟨wq_7_82, wq_7_84, wq_p4_3⟩ hx0 ⟨rfl, by decide⟩ wy_X12_isIn (fun q hq => m_X12_isIn l E x0 x1 (0 : Int32) (s1 x0 15) hx0 _ q hq) rfl rfl (Nat.le_of_ble_eq_true rfl) ⟨rfl, rfl, by decide, by decide⟩ h (fun v2 s3 h => ?_)
  refine wr_if_ne 20 (wg_da dt_X12_end 9 rfl) (by decide) h (fun h => ?_) (fun h => ?_)
  · refine wr_iconst (0 : Int32) (wg_da dt_X12_end 10 rfl) (by decide) ?_
    exact wr_zret0 (wg_da dt_X12_end 11 rfl) h
  · refine wr_aload_n (wg_da dt_X12_end 12 rfl) rfl ?_
    refine wr_iload_n (wg_da dt_X12_end 13 rfl) rfl ?_
    refine wr_putI wfp_X12_173 (wg_da dt_X12_end 14 rfl) hx0 h (fun s4 h => ?_)
    refine wr_iconst (1 : Int32) (wg_da dt_X12_end 15 rfl) (by decide) ?_
    exact wr_zret1 (wg_da dt_X12_end 16 rfl) h
theorem m_X12_end (l : Launch) (E : wg_E) (x0 : Nat) (x1 : Int32) (hx0 : wg_t Sm x0 = 14) (σ : wg_M) (q : Int32 × wg_M) (h : f_X12_end x0 x1 σ = some q) : wg_MG l E Sm yX12_end cX12_end 2 (some .boolean) rm_X12_end [.ref x0, .int x1] σ (some q.1) q.2 :=
  wg_met [.ref x0, .int x1] (plainFor_of_name (by decide)) (Nat.le_of_ble_eq_true rfl) (g_X12_end_e l E x0 x1 σ q hx0 h)
abbrev rm_X12_raw : Room := { frames := 0, cells := 0, slots := 0, locals := 0 }
def tb_X12_raw : List (Nat × Instr × Nat) := [(0, .iload_n 1, 1), (1, .aload_n 0, 1), (2, .getfield 173, 3), (5, .if_icmp .ge 12, 3), (8, .aload_n 0, 1), (9, .getfield 34, 3), (12, .iload_n 1, 1), (13, .iaload, 1), (14, .goto 4, 3), (17, .iconst (-1), 1), (18, .ireturn, 1)]
theorem dt_X12_raw : wg_dc cX12_raw tb_X12_raw := by unfold wg_dc; decide +kernel
def f_X12_raw  (x0 : Nat) (x1 : Int32) (σ : wg_M) : Option (Int32 × wg_M) := if (σ x0 15) ≤ x1 then (some ((-1 : Int32), σ)) else (wg_ga (wg_n Sm (wg_r Sm x0 14)) (σ (wg_r Sm x0 14)) x1 (fun v1 => some (v1, σ)))
set_option maxRecDepth 20000 in
theorem g_X12_raw_e (l : Launch) (E : wg_E)  (x0 : Nat) (x1 : Int32) (σ : wg_M) (z : Int32 × wg_M) (hx0 : wg_t Sm x0 = 14) (h : f_X12_raw  x0 x1 σ = some z) : wg_G l E Sm "WornWigsModel" cX12_raw 2 (some .int) rm_X12_raw (some z.1) z.2 0 [some (.ref x0), some (.int x1)] [] σ := by
  refine wr_iload_n (wg_da dt_X12_raw 0 rfl) rfl ?_
  refine wr_aload_n (wg_da dt_X12_raw 1 rfl) rfl ?_
  refine wr_getI wf_X12_173 (wg_da dt_X12_raw 2 rfl) hx0 ?_
  refine wr_icmp_ge 17 (wg_da dt_X12_raw 3 rfl) (by decide) h (fun h => ?_) (fun h => ?_)
  · refine wr_iconst (-1 : Int32) (wg_da dt_X12_raw 9 rfl) (by decide) ?_
    exact wr_iret (wg_da dt_X12_raw 10 rfl) h
  · refine wr_aload_n (wg_da dt_X12_raw 4 rfl) rfl ?_
    refine wr_getR wf_X12_34 (wg_da dt_X12_raw 5 rfl) hx0 ?_
    refine wr_iload_n (wg_da dt_X12_raw 6 rfl) rfl ?_
    refine wr_iald (wg_da dt_X12_raw 7 rfl) (wg_ty Sm_ok 12 14 0 hx0 rfl (by decide)).2 h (fun v1 h => ?_)
    refine wr_goto 18 (wg_da dt_X12_raw 8 rfl) (by decide) ?_
    exact wr_iret (wg_da dt_X12_raw 10 rfl) h
theorem m_X12_raw (l : Launch) (E : wg_E) (x0 : Nat) (x1 : Int32) (hx0 : wg_t Sm x0 = 14) (σ : wg_M) (q : Int32 × wg_M) (h : f_X12_raw x0 x1 σ = some q) : wg_MG l E Sm yX12_raw cX12_raw 2 (some .int) rm_X12_raw [.ref x0, .int x1] σ (some q.1) q.2 :=
  wg_met [.ref x0, .int x1] (plainFor_of_name (by decide)) (Nat.le_of_ble_eq_true rfl) (g_X12_raw_e l E x0 x1 σ q hx0 h)
abbrev rm_X12_isLetter : Room := { frames := 1, cells := 0, slots := 0, locals := 23 }
def tb_X12_isLetter : List (Nat × Instr × Nat) := [(0, .aload_n 0, 1), (1, .iload_n 1, 1), (2, .bipush 97, 2), (4, .bipush 122, 2), (6, .invokevirtual 153, 3), (9, .ifCond .ne 15, 3), (12, .aload_n 0, 1), (13, .iload_n 1, 1), (14, .bipush 65, 2), (16, .bipush 90, 2), (18, .invokevirtual 153, 3), (21, .ifCond .eq 7, 3), (24, .iconst 1, 1), (25, .goto 4, 3), (28, .iconst 0, 1), (29, .ireturn, 1)]
theorem dt_X12_isLetter : wg_dc cX12_isLetter tb_X12_isLetter := by unfold wg_dc; decide +kernel
def f_X12_isLetter_24   (σ : wg_M) : Option (Int32 × wg_M) := some ((1 : Int32), σ)
def f_X12_isLetter  (x0 : Nat) (x1 : Int32) (σ : wg_M) : Option (Int32 × wg_M) := wg_bd (f_X12_isIn x0 x1 (97 : Int32) (122 : Int32) σ) (fun v1 s2 => if v1 = 0 then (wg_bd (f_X12_isIn x0 x1 (65 : Int32) (90 : Int32) s2) (fun v3 s4 => if v3 = 0 then (some ((0 : Int32), s4)) else (f_X12_isLetter_24   s4))) else (f_X12_isLetter_24   s2))
set_option maxRecDepth 20000 in
theorem g_X12_isLetter_24 (l : Launch) (E : wg_E)   (σ : wg_M) (z : Int32 × wg_M)  (h : f_X12_isLetter_24   σ = some z) : wg_G l E Sm "WornWigsModel" cX12_isLetter 2 (some .boolean) rm_X12_isLetter (some z.1) z.2 24 [none, none] [] σ := by
  refine wr_iconst (1 : Int32) (wg_da dt_X12_isLetter 12 rfl) (by decide) ?_
  refine wr_goto 29 (wg_da dt_X12_isLetter 13 rfl) (by decide) ?_
  exact wr_zret1 (wg_da dt_X12_isLetter 15 rfl) h
set_option maxRecDepth 20000 in
theorem g_X12_isLetter_e (l : Launch) (E : wg_E)  (x0 : Nat) (x1 : Int32) (σ : wg_M) (z : Int32 × wg_M) (hx0 : wg_t Sm x0 = 14) (h : f_X12_isLetter  x0 x1 σ = some z) : wg_G l E Sm "WornWigsModel" cX12_isLetter 2 (some .boolean) rm_X12_isLetter (some z.1) z.2 0 [some (.ref x0), some (.int x1)] [] σ := by
  refine wr_aload_n (wg_da dt_X12_isLetter 0 rfl) rfl ?_
  refine wr_iload_n (wg_da dt_X12_isLetter 1 rfl) rfl ?_
  refine wr_bipush (97 : Int32) (wg_da dt_X12_isLetter 2 rfl) (by decide) ?_
  refine wr_bipush (122 : Int32) (wg_da dt_X12_isLetter 3 rfl) (by decide) ?_
  refine wr_callVi [.int x1, .int (97 : Int32), .int (122 : Int32)] [] (wg_da dt_X12_isLetter 4 rfl) ⟨wq_7_82, wq_7_84, wq_p4_3⟩ hx0 ⟨rfl, by decide⟩ wy_X12_isIn (fun q hq => m_X12_isIn l E x0 x1 (97 : Int32) (122 : Int32) hx0 _ q hq) rfl rfl (Nat.le_of_ble_eq_true rfl) ⟨rfl, rfl, by decide, by decide⟩ h (fun v1 s2 h => ?_)
  refine wr_if_ne 24 (wg_da dt_X12_isLetter 5 rfl) (by decide) h (fun h => ?_) (fun h => ?_)
  · refine wr_aload_n (wg_da dt_X12_isLetter 6 rfl) rfl ?_
    refine wr_iload_n (wg_da dt_X12_isLetter 7 rfl) rfl ?_
    refine wr_bipush (65 : Int32) (wg_da dt_X12_isLetter 8 rfl) (by decide) ?_
    refine wr_bipush (90 : Int32) (wg_da dt_X12_isLetter 9 rfl) (by decide) ?_
    refine wr_callVi [.int x1, .int (65 : Int32), .int (90 : Int32)] [] (wg_da dt_X12_isLetter 10 rfl) ⟨wq_7_82, wq_7_84, wq_p4_3⟩ hx0 ⟨rfl, by decide⟩ wy_X12_isIn (fun q hq => m_X12_isIn l E x0 x1 (65 : Int32) (90 : Int32) hx0 _ q hq) rfl rfl (Nat.le_of_ble_eq_true rfl) ⟨rfl, rfl, by decide, by decide⟩ h (fun v3 s4 h => ?_)
    refine wr_if_eq 28 (wg_da dt_X12_isLetter 11 rfl) (by decide) h (fun h => ?_) (fun h => ?_)
    · refine wr_iconst (0 : Int32) (wg_da dt_X12_isLetter 14 rfl) (by decide) ?_
      exact wr_zret0 (wg_da dt_X12_isLetter 15 rfl) h
    · exact wr_wk [false, false] (g_X12_isLetter_24 l E   s4 _   h)
  · exact wr_wk [false, false] (g_X12_isLetter_24 l E   s2 _   h)
theorem m_X12_isLetter (l : Launch) (E : wg_E) (x0 : Nat) (x1 : Int32) (hx0 : wg_t Sm x0 = 14) (σ : wg_M) (q : Int32 × wg_M) (h : f_X12_isLetter x0 x1 σ = some q) : wg_MG l E Sm yX12_isLetter cX12_isLetter 2 (some .boolean) rm_X12_isLetter [.ref x0, .int x1] σ (some q.1) q.2 :=
  wg_met [.ref x0, .int x1] (plainFor_of_name (by decide)) (Nat.le_of_ble_eq_true rfl) (g_X12_isLetter_e l E x0 x1 σ q hx0 h)
abbrev rm_X12_isDigit : Room := { frames := 1, cells := 0, slots := 0, locals := 23 }
def tb_X12_isDigit : List (Nat × Instr × Nat) := [(0, .aload_n 0, 1), (1, .iload_n 1, 1), (2, .bipush 48, 2), (4, .bipush 57, 2), (6, .invokevirtual 153, 3), (9, .ireturn, 1)]
theorem dt_X12_isDigit : wg_dc cX12_isDigit tb_X12_isDigit := by unfold wg_dc; decide +kernel
def f_X12_isDigit  (x0 : Nat) (x1 : Int32) (σ : wg_M) : Option (Int32 × wg_M) := wg_bd (f_X12_isIn x0 x1 (48 : Int32) (57 : Int32) σ) (fun v1 s2 => wg_bz v1 (some (v1, s2)))
set_option maxRecDepth 20000 in
theorem g_X12_isDigit_e (l : Launch) (E : wg_E)  (x0 : Nat) (x1 : Int32) (σ : wg_M) (z : Int32 × wg_M) (hx0 : wg_t Sm x0 = 14) (h : f_X12_isDigit  x0 x1 σ = some z) : wg_G l E Sm "WornWigsModel" cX12_isDigit 2 (some .boolean) rm_X12_isDigit (some z.1) z.2 0 [some (.ref x0), some (.int x1)] [] σ := by
  refine wr_aload_n (wg_da dt_X12_isDigit 0 rfl) rfl ?_
  refine wr_iload_n (wg_da dt_X12_isDigit 1 rfl) rfl ?_
  refine wr_bipush (48 : Int32) (wg_da dt_X12_isDigit 2 rfl) (by decide) ?_
  refine wr_bipush (57 : Int32) (wg_da dt_X12_isDigit 3 rfl) (by decide) ?_
  refine wr_callVi [.int x1, .int (48 : Int32), .int (57 : Int32)] [] (wg_da dt_X12_isDigit 4 rfl) ⟨wq_7_82, wq_7_84, wq_p4_3⟩ hx0 ⟨rfl, by decide⟩ wy_X12_isIn (fun q hq => m_X12_isIn l E x0 x1 (48 : Int32) (57 : Int32) hx0 _ q hq) rfl rfl (Nat.le_of_ble_eq_true rfl) ⟨rfl, rfl, by decide, by decide⟩ h (fun v1 s2 h => ?_)
  exact wr_zret (wg_da dt_X12_isDigit 5 rfl) h
theorem m_X12_isDigit (l : Launch) (E : wg_E) (x0 : Nat) (x1 : Int32) (hx0 : wg_t Sm x0 = 14) (σ : wg_M) (q : Int32 × wg_M) (h : f_X12_isDigit x0 x1 σ = some q) : wg_MG l E Sm yX12_isDigit cX12_isDigit 2 (some .boolean) rm_X12_isDigit [.ref x0, .int x1] σ (some q.1) q.2 :=
  wg_met [.ref x0, .int x1] (plainFor_of_name (by decide)) (Nat.le_of_ble_eq_true rfl) (g_X12_isDigit_e l E x0 x1 σ q hx0 h)
abbrev rm_X12_isMarkSign : Room := { frames := 0, cells := 0, slots := 0, locals := 0 }
def tb_X12_isMarkSign : List (Nat × Instr × Nat) := [(0, .iload_n 1, 1), (1, .bipush 59, 2), (3, .if_icmp .eq 57, 3), (6, .iload_n 1, 1), (7, .bipush 43, 2), (9, .if_icmp .eq 51, 3), (12, .iload_n 1, 1), (13, .bipush 45, 2), (15, .if_icmp .eq 45, 3), (18, .iload_n 1, 1), (19, .bipush 42, 2), (21, .if_icmp .eq 39, 3), (24, .iload_n 1, 1), (25, .bipush 47, 2), (27, .if_icmp .eq 33, 3), (30, .iload_n 1, 1), (31, .bipush 40, 2), (33, .if_icmp .eq 27, 3), (36, .iload_n 1, 1), (37, .bipush 41, 2), (39, .if_icmp .eq 21, 3), (42, .iload_n 1, 1), (43, .bipush 60, 2), (45, .if_icmp .eq 15, 3), (48, .iload_n 1, 1), (49, .bipush 61, 2), (51, .if_icmp .eq 9, 3), (54, .iload_n 1, 1), (55, .bipush 62, 2), (57, .if_icmp .ne 7, 3), (60, .iconst 1, 1), (61, .goto 4, 3), (64, .iconst 0, 1), (65, .ireturn, 1)]
theorem dt_X12_isMarkSign : wg_dc cX12_isMarkSign tb_X12_isMarkSign := by unfold wg_dc; decide +kernel
def f_X12_isMarkSign_60   (σ : wg_M) : Option (Int32 × wg_M) := some ((1 : Int32), σ)
def f_X12_isMarkSign  (x0 : Nat) (x1 : Int32) (σ : wg_M) : Option (Int32 × wg_M) := if x1 = (59 : Int32) then (f_X12_isMarkSign_60   σ) else (if x1 = (43 : Int32) then (f_X12_isMarkSign_60   σ) else (if x1 = (45 : Int32) then (f_X12_isMarkSign_60   σ) else (if x1 = (42 : Int32) then (f_X12_isMarkSign_60   σ) else (if x1 = (47 : Int32) then (f_X12_isMarkSign_60   σ) else (if x1 = (40 : Int32) then (f_X12_isMarkSign_60   σ) else (if x1 = (41 : Int32) then (f_X12_isMarkSign_60   σ) else (if x1 = (60 : Int32) then (f_X12_isMarkSign_60   σ) else (if x1 = (61 : Int32) then (f_X12_isMarkSign_60   σ) else (if x1 = (62 : Int32) then (f_X12_isMarkSign_60   σ) else (some ((0 : Int32), σ)))))))))))
set_option maxRecDepth 20000 in
theorem g_X12_isMarkSign_60 (l : Launch) (E : wg_E)   (σ : wg_M) (z : Int32 × wg_M)  (h : f_X12_isMarkSign_60   σ = some z) : wg_G l E Sm "WornWigsModel" cX12_isMarkSign 2 (some .boolean) rm_X12_isMarkSign (some z.1) z.2 60 [none, none] [] σ := by
  refine wr_iconst (1 : Int32) (wg_da dt_X12_isMarkSign 30 rfl) (by decide) ?_
  refine wr_goto 65 (wg_da dt_X12_isMarkSign 31 rfl) (by decide) ?_
  exact wr_zret1 (wg_da dt_X12_isMarkSign 33 rfl) h
set_option maxRecDepth 20000 in
theorem g_X12_isMarkSign_e (l : Launch) (E : wg_E)  (x0 : Nat) (x1 : Int32) (σ : wg_M) (z : Int32 × wg_M) (hx0 : wg_t Sm x0 = 14) (h : f_X12_isMarkSign  x0 x1 σ = some z) : wg_G l E Sm "WornWigsModel" cX12_isMarkSign 2 (some .boolean) rm_X12_isMarkSign (some z.1) z.2 0 [some (.ref x0), some (.int x1)] [] σ := by
  refine wr_iload_n (wg_da dt_X12_isMarkSign 0 rfl) rfl ?_
  refine wr_bipush (59 : Int32) (wg_da dt_X12_isMarkSign 1 rfl) (by decide) ?_
  refine wr_icmp_eq 60 (wg_da dt_X12_isMarkSign 2 rfl) (by decide) h (fun h => ?_) (fun h => ?_)
  · exact wr_wk [false, false] (g_X12_isMarkSign_60 l E   σ _   h)
  · refine wr_iload_n (wg_da dt_X12_isMarkSign 3 rfl) rfl ?_
    refine wr_bipush (43 : Int32) (wg_da dt_X12_isMarkSign 4 rfl) (by decide) ?_
    refine wr_icmp_eq 60 (wg_da dt_X12_isMarkSign 5 rfl) (by decide) h (fun h => ?_) (fun h => ?_)
    · exact wr_wk [false, false] (g_X12_isMarkSign_60 l E   σ _   h)
    · refine wr_iload_n (wg_da dt_X12_isMarkSign 6 rfl) rfl ?_
      refine wr_bipush (45 : Int32) (wg_da dt_X12_isMarkSign 7 rfl) (by decide) ?_
      refine wr_icmp_eq 60 (wg_da dt_X12_isMarkSign 8 rfl) (by decide) h (fun h => ?_) (fun h => ?_)
      · exact wr_wk [false, false] (g_X12_isMarkSign_60 l E   σ _   h)
      · refine wr_iload_n (wg_da dt_X12_isMarkSign 9 rfl) rfl ?_
        refine wr_bipush (42 : Int32) (wg_da dt_X12_isMarkSign 10 rfl) (by decide) ?_
        refine wr_icmp_eq 60 (wg_da dt_X12_isMarkSign 11 rfl) (by decide) h (fun h => ?_) (fun h => ?_)
        · exact wr_wk [false, false] (g_X12_isMarkSign_60 l E   σ _   h)
        · refine wr_iload_n (wg_da dt_X12_isMarkSign 12 rfl) rfl ?_
          refine wr_bipush (47 : Int32) (wg_da dt_X12_isMarkSign 13 rfl) (by decide) ?_
          refine wr_icmp_eq 60 (wg_da dt_X12_isMarkSign 14 rfl) (by decide) h (fun h => ?_) (fun h => ?_)
          · exact wr_wk [false, false] (g_X12_isMarkSign_60 l E   σ _   h)
          · refine wr_iload_n (wg_da dt_X12_isMarkSign 15 rfl) rfl ?_
            refine wr_bipush (40 : Int32) (wg_da dt_X12_isMarkSign 16 rfl) (by decide) ?_
            refine wr_icmp_eq 60 (wg_da dt_X12_isMarkSign 17 rfl) (by decide) h (fun h => ?_) (fun h => ?_)
            · exact wr_wk [false, false] (g_X12_isMarkSign_60 l E   σ _   h)
            · refine wr_iload_n (wg_da dt_X12_isMarkSign 18 rfl) rfl ?_
              refine wr_bipush (41 : Int32) (wg_da dt_X12_isMarkSign 19 rfl) (by decide) ?_
              refine wr_icmp_eq 60 (wg_da dt_X12_isMarkSign 20 rfl) (by decide) h (fun h => ?_) (fun h => ?_)
              · exact wr_wk [false, false] (g_X12_isMarkSign_60 l E   σ _   h)
              · refine wr_iload_n (wg_da dt_X12_isMarkSign 21 rfl) rfl ?_
                refine wr_bipush (60 : Int32) (wg_da dt_X12_isMarkSign 22 rfl) (by decide) ?_
                refine wr_icmp_eq 60 (wg_da dt_X12_isMarkSign 23 rfl) (by decide) h (fun h => ?_) (fun h => ?_)
                · exact wr_wk [false, false] (g_X12_isMarkSign_60 l E   σ _   h)
                · refine wr_iload_n (wg_da dt_X12_isMarkSign 24 rfl) rfl ?_
                  refine wr_bipush (61 : Int32) (wg_da dt_X12_isMarkSign 25 rfl) (by decide) ?_
                  refine wr_icmp_eq 60 (wg_da dt_X12_isMarkSign 26 rfl) (by decide) h (fun h => ?_) (fun h => ?_)
                  · exact wr_wk [false, false] (g_X12_isMarkSign_60 l E   σ _   h)
                  · refine wr_iload_n (wg_da dt_X12_isMarkSign 27 rfl) rfl ?_
                    refine wr_bipush (62 : Int32) (wg_da dt_X12_isMarkSign 28 rfl) (by decide) ?_
                    refine wr_icmp_ne 64 (wg_da dt_X12_isMarkSign 29 rfl) (by decide) h (fun h => ?_) (fun h => ?_)
                    · exact wr_wk [false, false] (g_X12_isMarkSign_60 l E   σ _   h)
                    · refine wr_iconst (0 : Int32) (wg_da dt_X12_isMarkSign 32 rfl) (by decide) ?_
                      exact wr_zret0 (wg_da dt_X12_isMarkSign 33 rfl) h
theorem m_X12_isMarkSign (l : Launch) (E : wg_E) (x0 : Nat) (x1 : Int32) (hx0 : wg_t Sm x0 = 14) (σ : wg_M) (q : Int32 × wg_M) (h : f_X12_isMarkSign x0 x1 σ = some q) : wg_MG l E Sm yX12_isMarkSign cX12_isMarkSign 2 (some .boolean) rm_X12_isMarkSign [.ref x0, .int x1] σ (some q.1) q.2 :=
  wg_met [.ref x0, .int x1] (plainFor_of_name (by decide)) (Nat.le_of_ble_eq_true rfl) (g_X12_isMarkSign_e l E x0 x1 σ q hx0 h)
abbrev rm_X12_wordAt : Room := { frames := 0, cells := 0, slots := 0, locals := 0 }
def tb_X12_wordAt : List (Nat × Instr × Nat) := [(0, .iconst (-1), 1), (1, .istore_n 3, 1), (2, .iconst 0, 1), (3, .istore 4, 2), (5, .iload 4, 2), (7, .sipush 128, 3), (10, .if_icmp .ge 108, 3), (13, .iconst 0, 1), (14, .istore 5, 2), (16, .iload_n 3, 1), (17, .iconst 1, 1), (18, .iadd, 1), (19, .istore_n 3, 1), (20, .iload_n 1, 1), (21, .iload 5, 2), (23, .iadd, 1), (24, .iload_n 2, 1), (25, .if_icmp .ge 36, 3), (28, .aload_n 0, 1), (29, .getfield 37, 3), (32, .iload 4, 2), (34, .iconst 1, 1), (35, .iadd, 1), (36, .iload 5, 2), (38, .iadd, 1), (39, .iaload, 1), (40, .aload_n 0, 1), (41, .getfield 34, 3), (44, .iload_n 1, 1), (45, .iload 5, 2), (47, .iadd, 1), (48, .iaload, 1), (49, .if_icmp .ne 12, 3), (52, .iload 5, 2), (54, .iconst 1, 1), (55, .iadd, 1), (56, .istore 5, 2), (58, .goto (-38), 3), (61, .iload_n 1, 1), (62, .iload 5, 2), (64, .iadd, 1), (65, .iload_n 2, 1), (66, .if_icmp .ne 22, 3), (69, .aload_n 0, 1), (70, .getfield 37, 3), (73, .iload 4, 2), (75, .iconst 1, 1), (76, .iadd, 1), (77, .iload 5, 2), (79, .iadd, 1), (80, .iaload, 1), (81, .bipush 32, 2), (83, .if_icmp .ne 5, 3), (86, .iload_n 3, 1), (87, .ireturn, 1), (88, .iload 4, 2), (90, .iconst 1, 1), (91, .iadd, 1), (92, .istore 4, 2), (94, .aload_n 0, 1), (95, .getfield 37, 3), (98, .iload 4, 2), (100, .iaload, 1), (101, .bipush 32, 2), (103, .if_icmp .eq 12, 3), (106, .iload 4, 2), (108, .iconst 1, 1), (109, .iadd, 1), (110, .istore 4, 2), (112, .goto (-18), 3), (115, .goto (-110), 3), (118, .iconst (-1), 1), (119, .ireturn, 1)]
theorem dt_X12_wordAt : wg_dc cX12_wordAt tb_X12_wordAt := by unfold wg_dc; decide +kernel
def f_X12_wordAt_94 (k5 : Nat → Int32 → Int32 → Int32 → Int32 → wg_M → Option (Int32 × wg_M)) : Nat → Nat → Int32 → Int32 → Int32 → Int32 → wg_M → Option (Int32 × wg_M)
  | 0, _, _, _, _, _, _ => none
  | n + 1, x0, x1, x2, x3, x4, σ => wg_ga (wg_n Sm (wg_r Sm x0 20)) (σ (wg_r Sm x0 20)) x4 (fun v1 => if v1 = (32 : Int32) then (k5 x0 x1 x2 x3 x4 σ) else (wg_let (x4 + (1 : Int32)) (fun v2 => f_X12_wordAt_94 k5 n x0 x1 x2 x3 v2 σ)))
def f_X12_wordAt_88 (k5 : Nat → Int32 → Int32 → Int32 → Int32 → wg_M → Option (Int32 × wg_M)) (x0 : Nat) (x1 : Int32) (x2 : Int32) (x3 : Int32) (x4 : Int32) (σ : wg_M) : Option (Int32 × wg_M) := wg_let (x4 + (1 : Int32)) (fun v1 => f_X12_wordAt_94 k5 wg_N x0 x1 x2 x3 v1 σ)
def f_X12_wordAt_61 (k5 : Nat → Int32 → Int32 → Int32 → Int32 → wg_M → Option (Int32 × wg_M)) (x0 : Nat) (x1 : Int32) (x2 : Int32) (x3 : Int32) (x4 : Int32) (x5 : Int32) (σ : wg_M) : Option (Int32 × wg_M) := if (x1 + x5) = x2 then (wg_ga (wg_n Sm (wg_r Sm x0 20)) (σ (wg_r Sm x0 20)) ((x4 + (1 : Int32)) + x5) (fun v1 => if v1 = (32 : Int32) then (some (x3, σ)) else (f_X12_wordAt_88 k5 x0 x1 x2 x3 x4 σ))) else (f_X12_wordAt_88 k5 x0 x1 x2 x3 x4 σ)
def f_X12_wordAt_20 (k5 : Nat → Int32 → Int32 → Int32 → Int32 → wg_M → Option (Int32 × wg_M)) : Nat → Nat → Int32 → Int32 → Int32 → Int32 → Int32 → wg_M → Option (Int32 × wg_M)
  | 0, _, _, _, _, _, _, _ => none
  | n + 1, x0, x1, x2, x3, x4, x5, σ => if x2 ≤ (x1 + x5) then (f_X12_wordAt_61 k5 x0 x1 x2 x3 x4 x5 σ) else (wg_ga (wg_n Sm (wg_r Sm x0 20)) (σ (wg_r Sm x0 20)) ((x4 + (1 : Int32)) + x5) (fun v1 => wg_ga (wg_n Sm (wg_r Sm x0 14)) (σ (wg_r Sm x0 14)) (x1 + x5) (fun v2 => if v1 = v2 then (wg_let (x5 + (1 : Int32)) (fun v3 => f_X12_wordAt_20 k5 n x0 x1 x2 x3 x4 v3 σ)) else (f_X12_wordAt_61 k5 x0 x1 x2 x3 x4 x5 σ))))
def f_X12_wordAt_5  : Nat → Nat → Int32 → Int32 → Int32 → Int32 → wg_M → Option (Int32 × wg_M)
  | 0, _, _, _, _, _, _ => none
  | n + 1, x0, x1, x2, x3, x4, σ => if (128 : Int32) ≤ x4 then (some ((-1 : Int32), σ)) else (wg_let (x3 + (1 : Int32)) (fun v1 => f_X12_wordAt_20 (f_X12_wordAt_5  n) wg_N x0 x1 x2 v1 x4 (0 : Int32) σ))
def f_X12_wordAt  (x0 : Nat) (x1 : Int32) (x2 : Int32) (σ : wg_M) : Option (Int32 × wg_M) := f_X12_wordAt_5  wg_N x0 x1 x2 (-1 : Int32) (0 : Int32) σ
set_option maxRecDepth 20000 in
theorem g_X12_wordAt_94 (l : Launch) (E : wg_E) (k5 : Nat → Int32 → Int32 → Int32 → Int32 → wg_M → Option (Int32 × wg_M)) (z : Int32 × wg_M) (hk5 : ∀ (x0 : Nat) (x1 : Int32) (x2 : Int32) (x3 : Int32) (x4 : Int32) (σ : wg_M), wg_t Sm x0 = 14 → k5 x0 x1 x2 x3 x4 σ = some z → wg_G l E Sm "WornWigsModel" cX12_wordAt 6 (some .int) rm_X12_wordAt (some z.1) z.2 5 [some (.ref x0), some (.int x1), some (.int x2), some (.int x3), some (.int x4), none] [] σ) : ∀ (n : Nat) (x0 : Nat) (x1 : Int32) (x2 : Int32) (x3 : Int32) (x4 : Int32) (σ : wg_M) (hx0 : wg_t Sm x0 = 14) (h : f_X12_wordAt_94 k5 n x0 x1 x2 x3 x4 σ = some z), wg_G l E Sm "WornWigsModel" cX12_wordAt 6 (some .int) rm_X12_wordAt (some z.1) z.2 94 [some (.ref x0), some (.int x1), some (.int x2), some (.int x3), some (.int x4), none] [] σ := by
  intro n
  induction n with
  | zero => intro x0 x1 x2 x3 x4 σ hx0 h; cases h
  | succ n ih =>
    intro x0 x1 x2 x3 x4 σ hx0 h
    refine wr_aload_n (wg_da dt_X12_wordAt 59 rfl) rfl ?_
    refine wr_getR wf_X12_37 (wg_da dt_X12_wordAt 60 rfl) hx0 ?_
    refine wr_iload (wg_da dt_X12_wordAt 61 rfl) rfl ?_
    refine wr_iald (wg_da dt_X12_wordAt 62 rfl) (wg_ty Sm_ok 12 20 0 hx0 rfl (by decide)).2 h (fun v1 h => ?_)
    refine wr_bipush (32 : Int32) (wg_da dt_X12_wordAt 63 rfl) (by decide) ?_
    refine wr_icmp_eq 115 (wg_da dt_X12_wordAt 64 rfl) (by decide) h (fun h => ?_) (fun h => ?_)
    · refine wr_goto 5 (wg_da dt_X12_wordAt 70 rfl) (by decide) ?_
      exact wr_wk [true, true, true, true, true, false] (hk5 x0 x1 x2 x3 x4 σ hx0 h)
    · refine wr_iload (wg_da dt_X12_wordAt 65 rfl) rfl ?_
      refine wr_iconst (1 : Int32) (wg_da dt_X12_wordAt 66 rfl) (by decide) ?_
      refine wr_iadd (wg_da dt_X12_wordAt 67 rfl) ?_
      refine wr_let h (fun v2 h => ?_)
      refine wr_istore (wg_da dt_X12_wordAt 68 rfl) (by decide) ?_
      refine wr_goto 94 (wg_da dt_X12_wordAt 69 rfl) (by decide) ?_
      exact wr_wk [true, true, true, true, true, false] (ih x0 x1 x2 x3 v2 σ hx0 h)
set_option maxRecDepth 20000 in
theorem g_X12_wordAt_88 (l : Launch) (E : wg_E) (k5 : Nat → Int32 → Int32 → Int32 → Int32 → wg_M → Option (Int32 × wg_M)) (x0 : Nat) (x1 : Int32) (x2 : Int32) (x3 : Int32) (x4 : Int32) (σ : wg_M) (z : Int32 × wg_M) (hx0 : wg_t Sm x0 = 14) (hk5 : ∀ (x0 : Nat) (x1 : Int32) (x2 : Int32) (x3 : Int32) (x4 : Int32) (σ : wg_M), wg_t Sm x0 = 14 → k5 x0 x1 x2 x3 x4 σ = some z → wg_G l E Sm "WornWigsModel" cX12_wordAt 6 (some .int) rm_X12_wordAt (some z.1) z.2 5 [some (.ref x0), some (.int x1), some (.int x2), some (.int x3), some (.int x4), none] [] σ) (h : f_X12_wordAt_88 k5 x0 x1 x2 x3 x4 σ = some z) : wg_G l E Sm "WornWigsModel" cX12_wordAt 6 (some .int) rm_X12_wordAt (some z.1) z.2 88 [some (.ref x0), some (.int x1), some (.int x2), some (.int x3), some (.int x4), none] [] σ := by
  refine wr_iload (wg_da dt_X12_wordAt 55 rfl) rfl ?_
  refine wr_iconst (1 : Int32) (wg_da dt_X12_wordAt 56 rfl) (by decide) ?_
  refine wr_iadd (wg_da dt_X12_wordAt 57 rfl) ?_
  refine wr_let h (fun v1 h => ?_)
  refine wr_istore (wg_da dt_X12_wordAt 58 rfl) (by decide) ?_
  exact wr_wk [true, true, true, true, true, false] (g_X12_wordAt_94 l E k5 _ hk5 wg_N x0 x1 x2 x3 v1 σ hx0 h)
set_option maxRecDepth 20000 in
theorem g_X12_wordAt_61 (l : Launch) (E : wg_E) (k5 : Nat → Int32 → Int32 → Int32 → Int32 → wg_M → Option (Int32 × wg_M)) (x0 : Nat) (x1 : Int32) (x2 : Int32) (x3 : Int32) (x4 : Int32) (x5 : Int32) (σ : wg_M) (z : Int32 × wg_M) (hx0 : wg_t Sm x0 = 14) (hk5 : ∀ (x0 : Nat) (x1 : Int32) (x2 : Int32) (x3 : Int32) (x4 : Int32) (σ : wg_M), wg_t Sm x0 = 14 → k5 x0 x1 x2 x3 x4 σ = some z → wg_G l E Sm "WornWigsModel" cX12_wordAt 6 (some .int) rm_X12_wordAt (some z.1) z.2 5 [some (.ref x0), some (.int x1), some (.int x2), some (.int x3), some (.int x4), none] [] σ) (h : f_X12_wordAt_61 k5 x0 x1 x2 x3 x4 x5 σ = some z) : wg_G l E Sm "WornWigsModel" cX12_wordAt 6 (some .int) rm_X12_wordAt (some z.1) z.2 61 [some (.ref x0), some (.int x1), some (.int x2), some (.int x3), some (.int x4), some (.int x5)] [] σ := by
  refine wr_iload_n (wg_da dt_X12_wordAt 38 rfl) rfl ?_
  refine wr_iload (wg_da dt_X12_wordAt 39 rfl) rfl ?_
  refine wr_iadd (wg_da dt_X12_wordAt 40 rfl) ?_
  refine wr_iload_n (wg_da dt_X12_wordAt 41 rfl) rfl ?_
  refine wr_icmp_ne 88 (wg_da dt_X12_wordAt 42 rfl) (by decide) h (fun h => ?_) (fun h => ?_)
  · refine wr_aload_n (wg_da dt_X12_wordAt 43 rfl) rfl ?_
    refine wr_getR wf_X12_37 (wg_da dt_X12_wordAt 44 rfl) hx0 ?_
    refine wr_iload (wg_da dt_X12_wordAt 45 rfl) rfl ?_
    refine wr_iconst (1 : Int32) (wg_da dt_X12_wordAt 46 rfl) (by decide) ?_
    refine wr_iadd (wg_da dt_X12_wordAt 47 rfl) ?_
    refine wr_iload (wg_da dt_X12_wordAt 48 rfl) rfl ?_
    refine wr_iadd (wg_da dt_X12_wordAt 49 rfl) ?_
    refine wr_iald (wg_da dt_X12_wordAt 50 rfl) (wg_ty Sm_ok 12 20 0 hx0 rfl (by decide)).2 h (fun v1 h => ?_)
    refine wr_bipush (32 : Int32) (wg_da dt_X12_wordAt 51 rfl) (by decide) ?_
    refine wr_icmp_ne 88 (wg_da dt_X12_wordAt 52 rfl) (by decide) h (fun h => ?_) (fun h => ?_)
    · refine wr_iload_n (wg_da dt_X12_wordAt 53 rfl) rfl ?_
      exact wr_iret (wg_da dt_X12_wordAt 54 rfl) h
    · exact wr_wk [true, true, true, true, true, false] (g_X12_wordAt_88 l E k5 x0 x1 x2 x3 x4 σ _ hx0 hk5 h)
  · exact wr_wk [true, true, true, true, true, false] (g_X12_wordAt_88 l E k5 x0 x1 x2 x3 x4 σ _ hx0 hk5 h)
set_option maxRecDepth 20000 in
theorem g_X12_wordAt_20 (l : Launch) (E : wg_E) (k5 : Nat → Int32 → Int32 → Int32 → Int32 → wg_M → Option (Int32 × wg_M)) (z : Int32 × wg_M) (hk5 : ∀ (x0 : Nat) (x1 : Int32) (x2 : Int32) (x3 : Int32) (x4 : Int32) (σ : wg_M), wg_t Sm x0 = 14 → k5 x0 x1 x2 x3 x4 σ = some z → wg_G l E Sm "WornWigsModel" cX12_wordAt 6 (some .int) rm_X12_wordAt (some z.1) z.2 5 [some (.ref x0), some (.int x1), some (.int x2), some (.int x3), some (.int x4), none] [] σ) : ∀ (n : Nat) (x0 : Nat) (x1 : Int32) (x2 : Int32) (x3 : Int32) (x4 : Int32) (x5 : Int32) (σ : wg_M) (hx0 : wg_t Sm x0 = 14) (h : f_X12_wordAt_20 k5 n x0 x1 x2 x3 x4 x5 σ = some z), wg_G l E Sm "WornWigsModel" cX12_wordAt 6 (some .int) rm_X12_wordAt (some z.1) z.2 20 [some (.ref x0), some (.int x1), some (.int x2), some (.int x3), some (.int x4), some (.int x5)] [] σ := by
  intro n
  induction n with
  | zero => intro x0 x1 x2 x3 x4 x5 σ hx0 h; cases h
  | succ n ih =>
    intro x0 x1 x2 x3 x4 x5 σ hx0 h
    refine wr_iload_n (wg_da dt_X12_wordAt 13 rfl) rfl ?_
    refine wr_iload (wg_da dt_X12_wordAt 14 rfl) rfl ?_
    refine wr_iadd (wg_da dt_X12_wordAt 15 rfl) ?_
    refine wr_iload_n (wg_da dt_X12_wordAt 16 rfl) rfl ?_
    refine wr_icmp_ge 61 (wg_da dt_X12_wordAt 17 rfl) (by decide) h (fun h => ?_) (fun h => ?_)
    · exact wr_wk [true, true, true, true, true, true] (g_X12_wordAt_61 l E k5 x0 x1 x2 x3 x4 x5 σ _ hx0 hk5 h)
    · refine wr_aload_n (wg_da dt_X12_wordAt 18 rfl) rfl ?_
      refine wr_getR wf_X12_37 (wg_da dt_X12_wordAt 19 rfl) hx0 ?_
      refine wr_iload (wg_da dt_X12_wordAt 20 rfl) rfl ?_
      refine wr_iconst (1 : Int32) (wg_da dt_X12_wordAt 21 rfl) (by decide) ?_
      refine wr_iadd (wg_da dt_X12_wordAt 22 rfl) ?_
      refine wr_iload (wg_da dt_X12_wordAt 23 rfl) rfl ?_
      refine wr_iadd (wg_da dt_X12_wordAt 24 rfl) ?_
      refine wr_iald (wg_da dt_X12_wordAt 25 rfl) (wg_ty Sm_ok 12 20 0 hx0 rfl (by decide)).2 h (fun v1 h => ?_)
      refine wr_aload_n (wg_da dt_X12_wordAt 26 rfl) rfl ?_
      refine wr_getR wf_X12_34 (wg_da dt_X12_wordAt 27 rfl) hx0 ?_
      refine wr_iload_n (wg_da dt_X12_wordAt 28 rfl) rfl ?_
      refine wr_iload (wg_da dt_X12_wordAt 29 rfl) rfl ?_
      refine wr_iadd (wg_da dt_X12_wordAt 30 rfl) ?_
      refine wr_iald (wg_da dt_X12_wordAt 31 rfl) (wg_ty Sm_ok 12 14 0 hx0 rfl (by decide)).2 h (fun v2 h => ?_)
      refine wr_icmp_ne 61 (wg_da dt_X12_wordAt 32 rfl) (by decide) h (fun h => ?_) (fun h => ?_)
      · refine wr_iload (wg_da dt_X12_wordAt 33 rfl) rfl ?_
        refine wr_iconst (1 : Int32) (wg_da dt_X12_wordAt 34 rfl) (by decide) ?_
        refine wr_iadd (wg_da dt_X12_wordAt 35 rfl) ?_
        refine wr_let h (fun v3 h => ?_)
        refine wr_istore (wg_da dt_X12_wordAt 36 rfl) (by decide) ?_
        refine wr_goto 20 (wg_da dt_X12_wordAt 37 rfl) (by decide) ?_
        exact wr_wk [true, true, true, true, true, true] (ih x0 x1 x2 x3 x4 v3 σ hx0 h)
      · exact wr_wk [true, true, true, true, true, true] (g_X12_wordAt_61 l E k5 x0 x1 x2 x3 x4 x5 σ _ hx0 hk5 h)
set_option maxRecDepth 20000 in
theorem g_X12_wordAt_5 (l : Launch) (E : wg_E)  (z : Int32 × wg_M) : ∀ (n : Nat) (x0 : Nat) (x1 : Int32) (x2 : Int32) (x3 : Int32) (x4 : Int32) (σ : wg_M) (hx0 : wg_t Sm x0 = 14) (h : f_X12_wordAt_5  n x0 x1 x2 x3 x4 σ = some z), wg_G l E Sm "WornWigsModel" cX12_wordAt 6 (some .int) rm_X12_wordAt (some z.1) z.2 5 [some (.ref x0), some (.int x1), some (.int x2), some (.int x3), some (.int x4), none] [] σ := by
  intro n
  induction n with
  | zero => intro x0 x1 x2 x3 x4 σ hx0 h; cases h
  | succ n ih =>
    intro x0 x1 x2 x3 x4 σ hx0 h
    refine wr_iload (wg_da dt_X12_wordAt 4 rfl) rfl ?_
    refine wr_sipush (128 : Int32) (wg_da dt_X12_wordAt 5 rfl) (by decide) ?_
    refine wr_icmp_ge 118 (wg_da dt_X12_wordAt 6 rfl) (by decide) h (fun h => ?_) (fun h => ?_)
    · refine wr_iconst (-1 : Int32) (wg_da dt_X12_wordAt 71 rfl) (by decide) ?_
      exact wr_iret (wg_da dt_X12_wordAt 72 rfl) h
    · refine wr_iconst (0 : Int32) (wg_da dt_X12_wordAt 7 rfl) (by decide) ?_
      refine wr_istore (wg_da dt_X12_wordAt 8 rfl) (by decide) ?_
      refine wr_iload_n (wg_da dt_X12_wordAt 9 rfl) rfl ?_
      refine wr_iconst (1 : Int32) (wg_da dt_X12_wordAt 10 rfl) (by decide) ?_
      refine wr_iadd (wg_da dt_X12_wordAt 11 rfl) ?_
      refine wr_let h (fun v1 h => ?_)
      refine wr_istore_n (wg_da dt_X12_wordAt 12 rfl) (by decide) ?_
      exact wr_wk [true, true, true, true, true, true] (g_X12_wordAt_20 l E (f_X12_wordAt_5  n) _ (fun x0 x1 x2 x3 x4 σ hx0 h => ih x0 x1 x2 x3 x4 σ hx0 h) wg_N x0 x1 x2 v1 x4 (0 : Int32) σ hx0 h)
set_option maxRecDepth 20000 in
theorem g_X12_wordAt_e (l : Launch) (E : wg_E)  (x0 : Nat) (x1 : Int32) (x2 : Int32) (σ : wg_M) (z : Int32 × wg_M) (hx0 : wg_t Sm x0 = 14) (h : f_X12_wordAt  x0 x1 x2 σ = some z) : wg_G l E Sm "WornWigsModel" cX12_wordAt 6 (some .int) rm_X12_wordAt (some z.1) z.2 0 [some (.ref x0), some (.int x1), some (.int x2), none, none, none] [] σ := by
  refine wr_iconst (-1 : Int32) (wg_da dt_X12_wordAt 0 rfl) (by decide) ?_
  refine wr_istore_n (wg_da dt_X12_wordAt 1 rfl) (by decide) ?_
  refine wr_iconst (0 : Int32) (wg_da dt_X12_wordAt 2 rfl) (by decide) ?_
  refine wr_istore (wg_da dt_X12_wordAt 3 rfl) (by decide) ?_
  exact wr_wk [true, true, true, true, true, false] (g_X12_wordAt_5 l E  _  wg_N x0 x1 x2 (-1 : Int32) (0 : Int32) σ hx0 h)
theorem m_X12_wordAt (l : Launch) (E : wg_E) (x0 : Nat) (x1 : Int32) (x2 : Int32) (hx0 : wg_t Sm x0 = 14) (σ : wg_M) (q : Int32 × wg_M) (h : f_X12_wordAt x0 x1 x2 σ = some q) : wg_MG l E Sm yX12_wordAt cX12_wordAt 6 (some .int) rm_X12_wordAt [.ref x0, .int x1, .int x2] σ (some q.1) q.2 :=
  wg_met [.ref x0, .int x1, .int x2] (plainFor_of_name (by decide)) (Nat.le_of_ble_eq_true rfl) (g_X12_wordAt_e l E x0 x1 x2 σ q hx0 h)
abbrev rm_X12_reads : Room := { frames := 2, cells := 0, slots := 0, locals := 44 }
def tb_X12_reads : List (Nat × Instr × Nat) := [(0, .aload_n 0, 1), (1, .aload_n 0, 1), (2, .getfield 179, 3), (5, .invokevirtual 182, 3), (8, .bipush 32, 2), (10, .if_icmp .eq 16, 3), (13, .aload_n 0, 1), (14, .aload_n 0, 1), (15, .getfield 179, 3), (18, .invokevirtual 182, 3), (21, .bipush 10, 2), (23, .if_icmp .ne 16, 3), (26, .aload_n 0, 1), (27, .aload_n 0, 1), (28, .getfield 179, 3), (31, .iconst 1, 1), (32, .iadd, 1), (33, .putfield 179, 3), (36, .goto (-36), 3), (39, .aload_n 0, 1), (40, .aload_n 0, 1), (41, .getfield 179, 3), (44, .putfield 185, 3), (47, .aload_n 0, 1), (48, .iconst 1, 1), (49, .putfield 188, 3), (52, .aload_n 0, 1), (53, .aload_n 0, 1), (54, .getfield 179, 3), (57, .invokevirtual 182, 3), (60, .istore_n 1, 1), (61, .iload_n 1, 1), (62, .iconst (-1), 1), (63, .if_icmp .ne 9, 3), (66, .aload_n 0, 1), (67, .iconst 0, 1), (68, .putfield 188, 3), (71, .return_, 1), (72, .aload_n 0, 1), (73, .aload_n 0, 1), (74, .getfield 179, 3), (77, .iconst 1, 1), (78, .iadd, 1), (79, .putfield 179, 3), (82, .aload_n 0, 1), (83, .iload_n 1, 1), (84, .putfield 191, 3), (87, .aload_n 0, 1), (88, .iload_n 1, 1), (89, .invokevirtual 194, 3), (92, .ifCond .eq 63, 3), (95, .aload_n 0, 1), (96, .aload_n 0, 1), (97, .aload_n 0, 1), (98, .getfield 179, 3), (101, .invokevirtual 182, 3), (104, .invokevirtual 194, 3), (107, .ifCond .eq 16, 3), (110, .aload_n 0, 1), (111, .aload_n 0, 1), (112, .getfield 179, 3), (115, .iconst 1, 1), (116, .iadd, 1), (117, .putfield 179, 3), (120, .goto (-25), 3), (123, .aload_n 0, 1), (124, .aload_n 0, 1), (125, .aload_n 0, 1), (126, .getfield 185, 3), (129, .aload_n 0, 1), (130, .getfield 179, 3), (133, .invokevirtual 197, 3), (136, .putfield 191, 3), (139, .aload_n 0, 1), (140, .getfield 191, 3), (143, .iconst (-1), 1), (144, .if_icmp .eq 129, 3), (147, .aload_n 0, 1), (148, .iconst 2, 1), (149, .putfield 188, 3), (152, .goto 121, 3), (155, .aload_n 0, 1), (156, .iload_n 1, 1), (157, .invokevirtual 200, 3), (160, .ifCond .eq 100, 3), (163, .aload_n 0, 1), (164, .iload_n 1, 1), (165, .bipush 48, 2), (167, .isub, 1), (168, .putfield 191, 3), (171, .aload_n 0, 1), (172, .aload_n 0, 1), (173, .aload_n 0, 1), (174, .getfield 179, 3), (177, .invokevirtual 182, 3), (180, .invokevirtual 200, 3), (183, .ifCond .eq 56, 3), (186, .aload_n 0, 1), (187, .aload_n 0, 1), (188, .getfield 191, 3), (191, .sipush 10000, 3), (194, .if_icmp .ge 25, 3), (197, .bipush 10, 2), (199, .aload_n 0, 1), (200, .getfield 191, 3), (203, .imul, 1), (204, .aload_n 0, 1), (205, .aload_n 0, 1), (206, .getfield 179, 3), (209, .invokevirtual 182, 3), (212, .iadd, 1), (213, .bipush 48, 2), (215, .isub, 1), (216, .goto 7, 3), (219, .aload_n 0, 1), (220, .getfield 191, 3), (223, .putfield 191, 3), (226, .aload_n 0, 1), (227, .aload_n 0, 1), (228, .getfield 179, 3), (231, .iconst 1, 1), (232, .iadd, 1), (233, .putfield 179, 3), (236, .goto (-65), 3), (239, .aload_n 0, 1), (240, .getfield 179, 3), (243, .aload_n 0, 1), (244, .getfield 185, 3), (247, .isub, 1), (248, .iconst 5, 1), (249, .if_icmp .ge 24, 3), (252, .aload_n 0, 1), (253, .iconst 3, 1), (254, .putfield 188, 3), (257, .goto 16, 3), (260, .aload_n 0, 1), (261, .iload_n 1, 1), (262, .invokevirtual 203, 3), (265, .ifCond .eq 8, 3), (268, .aload_n 0, 1), (269, .iconst 4, 1), (270, .putfield 188, 3), (273, .return_, 1)]
theorem dt_X12_reads : wg_dc cX12_reads tb_X12_reads := by unfold wg_dc; decide +kernel
def f_X12_reads_26 (k0 : Nat → wg_M → Option (Int32 × wg_M)) (x0 : Nat) (σ : wg_M) : Option (Int32 × wg_M) := wg_st σ x0 16 ((σ x0 16) + (1 : Int32)) (fun s1 => k0 x0 s1)
def f_X12_reads_223 (k171 : Nat → wg_M → Option (Int32 × wg_M)) (x0 : Nat) (t0 : Int32) (t1 : Nat) (σ : wg_M) : Option (Int32 × wg_M) := wg_st σ t1 19 t0 (fun s1 => wg_st s1 x0 16 ((s1 x0 16) + (1 : Int32)) (fun s2 => k171 x0 s2))
def f_X12_reads_171  : Nat → Nat → wg_M → Option (Int32 × wg_M)
  | 0, _, _ => none
  | n + 1, x0, σ => wg_bd (f_X12_raw x0 (σ x0 16) σ) (fun v1 s2 => wg_bd (f_X12_isDigit x0 v1 s2) (fun v3 s4 => if v3 = 0 then (if (5 : Int32) ≤ ((s4 x0 16) - (s4 x0 17)) then (some (0, s4)) else (wg_st s4 x0 18 (3 : Int32) (fun s5 => some (0, s5)))) else (if (10000 : Int32) ≤ (s4 x0 19) then (f_X12_reads_223 (f_X12_reads_171  n) x0 (s4 x0 19) x0 s4) else (wg_bd (f_X12_raw x0 (s4 x0 16) s4) (fun v6 s7 => f_X12_reads_223 (f_X12_reads_171  n) x0 ((((10 : Int32) * (s4 x0 19)) + v6) - (48 : Int32)) x0 s7)))))
def f_X12_reads_95  : Nat → Nat → wg_M → Option (Int32 × wg_M)
  | 0, _, _ => none
  | n + 1, x0, σ => wg_bd (f_X12_raw x0 (σ x0 16) σ) (fun v1 s2 => wg_bd (f_X12_isLetter x0 v1 s2) (fun v3 s4 => if v3 = 0 then (wg_bd (f_X12_wordAt x0 (s4 x0 17) (s4 x0 16) s4) (fun v5 s6 => wg_st s6 x0 19 v5 (fun s7 => if (s7 x0 19) = (-1 : Int32) then (some (0, s7)) else (wg_st s7 x0 18 (2 : Int32) (fun s8 => some (0, s8)))))) else (wg_st s4 x0 16 ((s4 x0 16) + (1 : Int32)) (fun s9 => f_X12_reads_95  n x0 s9))))
def f_X12_reads_0  : Nat → Nat → wg_M → Option (Int32 × wg_M)
  | 0, _, _ => none
  | n + 1, x0, σ => wg_bd (f_X12_raw x0 (σ x0 16) σ) (fun v1 s2 => if v1 = (32 : Int32) then (f_X12_reads_26 (f_X12_reads_0  n) x0 s2) else (wg_bd (f_X12_raw x0 (s2 x0 16) s2) (fun v3 s4 => if v3 = (10 : Int32) then (f_X12_reads_26 (f_X12_reads_0  n) x0 s4) else (wg_st s4 x0 17 (s4 x0 16) (fun s5 => wg_st s5 x0 18 (1 : Int32) (fun s6 => wg_bd (f_X12_raw x0 (s6 x0 16) s6) (fun v7 s8 => if v7 = (-1 : Int32) then (wg_st s8 x0 18 (0 : Int32) (fun s19 => some (0, s19))) else (wg_st s8 x0 16 ((s8 x0 16) + (1 : Int32)) (fun s9 => wg_st s9 x0 19 v7 (fun s10 => wg_bd (f_X12_isLetter x0 v7 s10) (fun v11 s12 => if v11 = 0 then (wg_bd (f_X12_isDigit x0 v7 s12) (fun v13 s14 => if v13 = 0 then (wg_bd (f_X12_isMarkSign x0 v7 s14) (fun v15 s16 => if v15 = 0 then (some (0, s16)) else (wg_st s16 x0 18 (4 : Int32) (fun s17 => some (0, s17))))) else (wg_st s14 x0 19 (v7 - (48 : Int32)) (fun s18 => f_X12_reads_171  wg_N x0 s18)))) else (f_X12_reads_95  wg_N x0 s12))))))))))))
def f_X12_reads  (x0 : Nat) (σ : wg_M) : Option (Int32 × wg_M) := f_X12_reads_0  wg_N x0 σ
set_option maxRecDepth 20000 in
theorem g_X12_reads_26 (l : Launch) (E : wg_E) (k0 : Nat → wg_M → Option (Int32 × wg_M)) (x0 : Nat) (σ : wg_M) (z : Int32 × wg_M) (hx0 : wg_t Sm x0 = 14) (hk0 : ∀ (x0 : Nat) (σ : wg_M), wg_t Sm x0 = 14 → k0 x0 σ = some z → wg_G l E Sm "WornWigsModel" cX12_reads 2 none rm_X12_reads none z.2 0 [some (.ref x0), none] [] σ) (h : f_X12_reads_26 k0 x0 σ = some z) : wg_G l E Sm "WornWigsModel" cX12_reads 2 none rm_X12_reads none z.2 26 [some (.ref x0), none] [] σ := by
  refine wr_aload_n (wg_da dt_X12_reads 12 rfl) rfl ?_
  refine wr_aload_n (wg_da dt_X12_reads 13 rfl) rfl ?_
  refine wr_getI wf_X12_179 (wg_da dt_X12_reads 14 rfl) hx0 ?_
  refine wr_iconst (1 : Int32) (wg_da dt_X12_reads 15 rfl) (by decide) ?_
  refine wr_iadd (wg_da dt_X12_reads 16 rfl) ?_
  refine wr_putI wfp_X12_179 (wg_da dt_X12_reads 17 rfl) hx0 h (fun s1 h => ?_)
  refine wr_goto 0 (wg_da dt_X12_reads 18 rfl) (by decide) ?_
  exact wr_wk [true, false] (hk0 x0 s1 hx0 h)
set_option maxRecDepth 20000 in
theorem g_X12_reads_223 (l : Launch) (E : wg_E) (k171 : Nat → wg_M → Option (Int32 × wg_M)) (x0 : Nat) (t0 : Int32) (t1 : Nat) (σ : wg_M) (z : Int32 × wg_M) (hx0 : wg_t Sm x0 = 14) (ht1 : wg_t Sm t1 = 14) (hk171 : ∀ (x0 : Nat) (σ : wg_M), wg_t Sm x0 = 14 → k171 x0 σ = some z → wg_G l E Sm "WornWigsModel" cX12_reads 2 none rm_X12_reads none z.2 171 [some (.ref x0), none] [] σ) (h : f_X12_reads_223 k171 x0 t0 t1 σ = some z) : wg_G l E Sm "WornWigsModel" cX12_reads 2 none rm_X12_reads none z.2 223 [some (.ref x0), none] [.int t0, .ref t1] σ := by
  refine wr_putI wfp_X12_191 (wg_da dt_X12_reads 116 rfl) ht1 h (fun s1 h => ?_)
  refine wr_aload_n (wg_da dt_X12_reads 117 rfl) rfl ?_
  refine wr_aload_n (wg_da dt_X12_reads 118 rfl) rfl ?_
  refine wr_getI wf_X12_179 (wg_da dt_X12_reads 119 rfl) hx0 ?_
  refine wr_iconst (1 : Int32) (wg_da dt_X12_reads 120 rfl) (by decide) ?_
  refine wr_iadd (wg_da dt_X12_reads 121 rfl) ?_
  refine wr_putI wfp_X12_179 (wg_da dt_X12_reads 122 rfl) hx0 h (fun s2 h => ?_)
  refine wr_goto 171 (wg_da dt_X12_reads 123 rfl) (by decide) ?_
  exact wr_wk [true, false] (hk171 x0 s2 hx0 h)
set_option maxRecDepth 20000 in
theorem g_X12_reads_171 (l : Launch) (E : wg_E)  (z : Int32 × wg_M) : ∀ (n : Nat) (x0 : Nat) (σ : wg_M) (hx0 : wg_t Sm x0 = 14) (h : f_X12_reads_171  n x0 σ = some z), wg_G l E Sm "WornWigsModel" cX12_reads 2 none rm_X12_reads none z.2 171 [some (.ref x0), none] [] σ := by
  intro n
  induction n with
  | zero => intro x0 σ hx0 h; cases h
  | succ n ih =>
    intro x0 σ hx0 h
    refine wr_aload_n (wg_da dt_X12_reads 90 rfl) rfl ?_
    refine wr_aload_n (wg_da dt_X12_reads 91 rfl) rfl ?_
    refine wr_aload_n (wg_da dt_X12_reads 92 rfl) rfl ?_
    refine wr_getI wf_X12_179 (wg_da dt_X12_reads 93 rfl) hx0 ?_
    refine wr_callVi [.int (σ x0 16)] [.ref x0] (wg_da dt_X12_reads 94 rfl) ⟨wq_7_162, wq_7_164, wq_p5_0⟩ hx0 ⟨rfl, by decide⟩ wy_X12_raw (fun q hq => m_X12_raw l E x0 (σ x0 16) hx0 _ q hq) rfl rfl (Nat.le_of_ble_eq_true rfl) ⟨rfl, rfl, by decide, by decide⟩ h (fun v1 s2 h => ?_)
    refine wr_callVi [.int v1] [] (wg_da dt_X12_reads 95 rfl) ⟨wq_7_174, wq_7_176, wq_p5_3⟩ hx0 ⟨rfl, by decide⟩ wy_X12_isDigit (fun q hq => m_X12_isDigit l E x0 v1 hx0 _ q hq) rfl rfl (Nat.le_of_ble_eq_true rfl) ⟨rfl, rfl, by decide, by decide⟩ h (fun v3 s4 h => ?_)
    refine wr_if_eq 239 (wg_da dt_X12_reads 96 rfl) (by decide) h (fun h => ?_) (fun h => ?_)
    · refine wr_aload_n (wg_da dt_X12_reads 124 rfl) rfl ?_
      refine wr_getI wf_X12_179 (wg_da dt_X12_reads 125 rfl) hx0 ?_
      refine wr_aload_n (wg_da dt_X12_reads 126 rfl) rfl ?_
      refine wr_getI wf_X12_185 (wg_da dt_X12_reads 127 rfl) hx0 ?_
      refine wr_isub (wg_da dt_X12_reads 128 rfl) ?_
      refine wr_iconst (5 : Int32) (wg_da dt_X12_reads 129 rfl) (by decide) ?_
      refine wr_icmp_ge 273 (wg_da dt_X12_reads 130 rfl) (by decide) h (fun h => ?_) (fun h => ?_)
      · exact wr_vret (wg_da dt_X12_reads 142 rfl) h
      · refine wr_aload_n (wg_da dt_X12_reads 131 rfl) rfl ?_
        refine wr_iconst (3 : Int32) (wg_da dt_X12_reads 132 rfl) (by decide) ?_
        refine wr_putI wfp_X12_188 (wg_da dt_X12_reads 133 rfl) hx0 h (fun s5 h => ?_)
        refine wr_goto 273 (wg_da dt_X12_reads 134 rfl) (by decide) ?_
        exact wr_vret (wg_da dt_X12_reads 142 rfl) h
    · refine wr_aload_n (wg_da dt_X12_reads 97 rfl) rfl ?_
      refine wr_aload_n (wg_da dt_X12_reads 98 rfl) rfl ?_
      refine wr_getI wf_X12_191 (wg_da dt_X12_reads 99 rfl) hx0 ?_
      refine wr_sipush (10000 : Int32) (wg_da dt_X12_reads 100 rfl) (by decide) ?_
      refine wr_icmp_ge 219 (wg_da dt_X12_reads 101 rfl) (by decide) h (fun h => ?_) (fun h => ?_)
      · refine wr_aload_n (wg_da dt_X12_reads 114 rfl) rfl ?_
        refine wr_getI wf_X12_191 (wg_da dt_X12_reads 115 rfl) hx0 ?_
        exact wr_wk [true, false] (g_X12_reads_223 l E (f_X12_reads_171  n) x0 (s4 x0 19) x0 s4 _ hx0 hx0 (fun x0 σ hx0 h => ih x0 σ hx0 h) h)
      · refine wr_bipush (10 : Int32) (wg_da dt_X12_reads 102 rfl) (by decide) ?_
        refine wr_aload_n (wg_da dt_X12_reads 103 rfl) rfl ?_
        refine wr_getI wf_X12_191 (wg_da dt_X12_reads 104 rfl) hx0 ?_
        refine wr_imul (wg_da dt_X12_reads 105 rfl) ?_
        refine wr_aload_n (wg_da dt_X12_reads 106 rfl) rfl ?_
        refine wr_aload_n (wg_da dt_X12_reads 107 rfl) rfl ?_
        refine wr_getI wf_X12_179 (wg_da dt_X12_reads 108 rfl) hx0 ?_
        refine wr_callVi [.int (s4 x0 16)] [.int ((10 : Int32) * (s4 x0 19)), .ref x0] (wg_da dt_X12_reads 109 rfl) ⟨wq_7_162, wq_7_164, wq_p5_0⟩ hx0 ⟨rfl, by decide⟩ wy_X12_raw (fun q hq => m_X12_raw l E x0 (s4 x0 16) hx0 _ q hq) rfl rfl (Nat.le_of_ble_eq_true rfl) ⟨rfl, rfl, by decide, by decide⟩ h (fun v6 s7 h => ?_)
        refine wr_iadd (wg_da dt_X12_reads 110 rfl) ?_
        refine wr_bipush (48 : Int32) (wg_da dt_X12_reads 111 rfl) (by decide) ?_
        refine wr_isub (wg_da dt_X12_reads 112 rfl) ?_
        refine wr_goto 223 (wg_da dt_X12_reads 113 rfl) (by decide) ?_
        exact wr_wk [true, false] (g_X12_reads_223 l E (f_X12_reads_171  n) x0 ((((10 : Int32) * (s4 x0 19)) + v6) - (48 : Int32)) x0 s7 _ hx0 hx0 (fun x0 σ hx0 h => ih x0 σ hx0 h) h)
set_option maxRecDepth 20000 in
theorem g_X12_reads_95 (l : Launch) (E : wg_E)  (z : Int32 × wg_M) : ∀ (n : Nat) (x0 : Nat) (σ : wg_M) (hx0 : wg_t Sm x0 = 14) (h : f_X12_reads_95  n x0 σ = some z), wg_G l E Sm "WornWigsModel" cX12_reads 2 none rm_X12_reads none z.2 95 [some (.ref x0), none] [] σ := by
  intro n
  induction n with
  | zero => intro x0 σ hx0 h; cases h
  | succ n ih =>
    intro x0 σ hx0 h
    refine wr_aload_n (wg_da dt_X12_reads 51 rfl) rfl ?_
    refine wr_aload_n (wg_da dt_X12_reads 52 rfl) rfl ?_
    refine wr_aload_n (wg_da dt_X12_reads 53 rfl) rfl ?_
    refine wr_getI wf_X12_179 (wg_da dt_X12_reads 54 rfl) hx0 ?_
    refine wr_callVi [.int (σ x0 16)] [.ref x0] (wg_da dt_X12_reads 55 rfl) ⟨wq_7_162, wq_7_164, wq_p5_0⟩ hx0 ⟨rfl, by decide⟩ wy_X12_raw (fun q hq => m_X12_raw l E x0 (σ x0 16) hx0 _ q hq) rfl rfl (Nat.le_of_ble_eq_true rfl) ⟨rfl, rfl, by decide, by decide⟩ h (fun v1 s2 h => ?_)
    refine wr_callVi [.int v1] [] (wg_da dt_X12_reads 56 rfl) ⟨wq_7_166, wq_7_168, wq_p5_1⟩ hx0 ⟨rfl, by decide⟩ wy_X12_isLetter (fun q hq => m_X12_isLetter l E x0 v1 hx0 _ q hq) rfl rfl (Nat.le_of_ble_eq_true rfl) ⟨rfl, rfl, by decide, by decide⟩ h (fun v3 s4 h => ?_)
    refine wr_if_eq 123 (wg_da dt_X12_reads 57 rfl) (by decide) h (fun h => ?_) (fun h => ?_)
    · refine wr_aload_n (wg_da dt_X12_reads 65 rfl) rfl ?_
      refine wr_aload_n (wg_da dt_X12_reads 66 rfl) rfl ?_
      refine wr_aload_n (wg_da dt_X12_reads 67 rfl) rfl ?_
      refine wr_getI wf_X12_185 (wg_da dt_X12_reads 68 rfl) hx0 ?_
      refine wr_aload_n (wg_da dt_X12_reads 69 rfl) rfl ?_
      refine wr_getI wf_X12_179 (wg_da dt_X12_reads 70 rfl) hx0 ?_
      refine wr_callVi [.int (s4 x0 17), .int (s4 x0 16)] [.ref x0] (wg_da dt_X12_reads 71 rfl) ⟨wq_7_170, wq_7_172, wq_p5_2⟩ hx0 ⟨rfl, by decide⟩ wy_X12_wordAt (fun q hq => m_X12_wordAt l E x0 (s4 x0 17) (s4 x0 16) hx0 _ q hq) rfl rfl (Nat.le_of_ble_eq_true rfl) ⟨rfl, rfl, by decide, by decide⟩ h (fun v5 s6 h => ?_)
      refine wr_putI wfp_X12_191 (wg_da dt_X12_reads 72 rfl) hx0 h (fun s7 h => ?_)
      refine wr_aload_n (wg_da dt_X12_reads 73 rfl) rfl ?_
      refine wr_getI wf_X12_191 (wg_da dt_X12_reads 74 rfl) hx0 ?_
      refine wr_iconst (-1 : Int32) (wg_da dt_X12_reads 75 rfl) (by decide) ?_
      refine wr_icmp_eq 273 (wg_da dt_X12_reads 76 rfl) (by decide) h (fun h => ?_) (fun h => ?_)
      · exact wr_vret (wg_da dt_X12_reads 142 rfl) h
      · refine wr_aload_n (wg_da dt_X12_reads 77 rfl) rfl ?_
        refine wr_iconst (2 : Int32) (wg_da dt_X12_reads 78 rfl) (by decide) ?_
        refine wr_putI wfp_X12_188 (wg_da dt_X12_reads 79 rfl) hx0 h (fun s8 h => ?_)
        refine wr_goto 273 (wg_da dt_X12_reads 80 rfl) (by decide) ?_
        exact wr_vret (wg_da dt_X12_reads 142 rfl) h
    · refine wr_aload_n (wg_da dt_X12_reads 58 rfl) rfl ?_
      refine wr_aload_n (wg_da dt_X12_reads 59 rfl) rfl ?_
      refine wr_getI wf_X12_179 (wg_da dt_X12_reads 60 rfl) hx0 ?_
      refine wr_iconst (1 : Int32) (wg_da dt_X12_reads 61 rfl) (by decide) ?_
      refine wr_iadd (wg_da dt_X12_reads 62 rfl) ?_
      refine wr_putI wfp_X12_179 (wg_da dt_X12_reads 63 rfl) hx0 h (fun s9 h => ?_)
      refine wr_goto 95 (wg_da dt_X12_reads 64 rfl) (by decide) ?_
      exact wr_wk [true, false] (ih x0 s9 hx0 h)
set_option maxRecDepth 20000 in
theorem g_X12_reads_0 (l : Launch) (E : wg_E)  (z : Int32 × wg_M) : ∀ (n : Nat) (x0 : Nat) (σ : wg_M) (hx0 : wg_t Sm x0 = 14) (h : f_X12_reads_0  n x0 σ = some z), wg_G l E Sm "WornWigsModel" cX12_reads 2 none rm_X12_reads none z.2 0 [some (.ref x0), none] [] σ := by
  intro n
  induction n with
  | zero => intro x0 σ hx0 h; cases h
  | succ n ih =>
    intro x0 σ hx0 h
    refine wr_aload_n (wg_da dt_X12_reads 0 rfl) rfl ?_
    refine wr_aload_n (wg_da dt_X12_reads 1 rfl) rfl ?_
    refine wr_getI wf_X12_179 (wg_da dt_X12_reads 2 rfl) hx0 ?_
    refine wr_callVi [.int (σ x0 16)] [] (wg_da dt_X12_reads 3 rfl) ⟨wq_7_162, wq_7_164, wq_p5_0⟩ hx0 ⟨rfl, by decide⟩ wy_X12_raw (fun q hq => m_X12_raw l E x0 (σ x0 16) hx0 _ q hq) rfl rfl (Nat.le_of_ble_eq_true rfl) ⟨rfl, rfl, by decide, by decide⟩ h (fun v1 s2 h => ?_)
    refine wr_bipush (32 : Int32) (wg_da dt_X12_reads 4 rfl) (by decide) ?_
    refine wr_icmp_eq 26 (wg_da dt_X12_reads 5 rfl) (by decide) h (fun h => ?_) (fun h => ?_)
    · exact wr_wk [true, false] (g_X12_reads_26 l E (f_X12_reads_0  n) x0 s2 _ hx0 (fun x0 σ hx0 h => ih x0 σ hx0 h) h)
    · refine wr_aload_n (wg_da dt_X12_reads 6 rfl) rfl ?_
      refine wr_aload_n (wg_da dt_X12_reads 7 rfl) rfl ?_
      refine wr_getI wf_X12_179 (wg_da dt_X12_reads 8 rfl) hx0 ?_
      refine wr_callVi [.int (s2 x0 16)] [] (wg_da dt_X12_reads 9 rfl) ⟨wq_7_162, wq_7_164, wq_p5_0⟩ hx0 ⟨rfl, by decide⟩ wy_X12_raw (fun q hq => m_X12_raw l E x0 (s2 x0 16) hx0 _ q hq) rfl rfl (Nat.le_of_ble_eq_true rfl) ⟨rfl, rfl, by decide, by decide⟩ h (fun v3 s4 h => ?_)
      refine wr_bipush (10 : Int32) (wg_da dt_X12_reads 10 rfl) (by decide) ?_
      refine wr_icmp_ne 39 (wg_da dt_X12_reads 11 rfl) (by decide) h (fun h => ?_) (fun h => ?_)
      · exact wr_wk [true, false] (g_X12_reads_26 l E (f_X12_reads_0  n) x0 s4 _ hx0 (fun x0 σ hx0 h => ih x0 σ hx0 h) h)
      · refine wr_aload_n (wg_da dt_X12_reads 19 rfl) rfl ?_
        refine wr_aload_n (wg_da dt_X12_reads 20 rfl) rfl ?_
        refine wr_getI wf_X12_179 (wg_da dt_X12_reads 21 rfl) hx0 ?_
        refine wr_putI wfp_X12_185 (wg_da dt_X12_reads 22 rfl) hx0 h (fun s5 h => ?_)
        refine wr_aload_n (wg_da dt_X12_reads 23 rfl) rfl ?_
        refine wr_iconst (1 : Int32) (wg_da dt_X12_reads 24 rfl) (by decide) ?_
        refine wr_putI wfp_X12_188 (wg_da dt_X12_reads 25 rfl) hx0 h (fun s6 h => ?_)
        refine wr_aload_n (wg_da dt_X12_reads 26 rfl) rfl ?_
        refine wr_aload_n (wg_da dt_X12_reads 27 rfl) rfl ?_
        refine wr_getI wf_X12_179 (wg_da dt_X12_reads 28 rfl) hx0 ?_
        refine wr_callVi [.int (s6 x0 16)] [] (wg_da dt_X12_reads 29 rfl) ⟨wq_7_162, wq_7_164, wq_p5_0⟩ hx0 ⟨rfl, by decide⟩ wy_X12_raw (fun q hq => m_X12_raw l E x0 (s6 x0 16) hx0 _ q hq) rfl rfl (Nat.le_of_ble_eq_true rfl) ⟨rfl, rfl, by decide, by decide⟩ h (fun v7 s8 h => ?_)
        refine wr_istore_n (wg_da dt_X12_reads 30 rfl) (by decide) ?_
        refine wr_iload_n (wg_da dt_X12_reads 31 rfl) rfl ?_
        refine wr_iconst (-1 : Int32) (wg_da dt_X12_reads 32 rfl) (by decide) ?_
        refine wr_icmp_ne 72 (wg_da dt_X12_reads 33 rfl) (by decide) h (fun h => ?_) (fun h => ?_)
        · refine wr_aload_n (wg_da dt_X12_reads 34 rfl) rfl ?_
          refine wr_iconst (0 : Int32) (wg_da dt_X12_reads 35 rfl) (by decide) ?_
          refine wr_putI wfp_X12_188 (wg_da dt_X12_reads 36 rfl) hx0 h (fun s19 h => ?_)
          exact wr_vret (wg_da dt_X12_reads 37 rfl) h
        · refine wr_aload_n (wg_da dt_X12_reads 38 rfl) rfl ?_
          refine wr_aload_n (wg_da dt_X12_reads 39 rfl) rfl ?_
          refine wr_getI wf_X12_179 (wg_da dt_X12_reads 40 rfl) hx0 ?_
          refine wr_iconst (1 : Int32) (wg_da dt_X12_reads 41 rfl) (by decide) ?_
          refine wr_iadd (wg_da dt_X12_reads 42 rfl) ?_
          refine wr_putI wfp_X12_179 (wg_da dt_X12_reads 43 rfl) hx0 h (fun s9 h => ?_)
          refine wr_aload_n (wg_da dt_X12_reads 44 rfl) rfl ?_
          refine wr_iload_n (wg_da dt_X12_reads 45 rfl) rfl ?_
          refine wr_putI wfp_X12_191 (wg_da dt_X12_reads 46 rfl) hx0 h (fun s10 h => ?_)
          refine wr_aload_n (wg_da dt_X12_reads 47 rfl) rfl ?_
          refine wr_iload_n (wg_da dt_X12_reads 48 rfl) rfl ?_
          refine wr_callVi [.int v7] [] (wg_da dt_X12_reads 49 rfl) ⟨wq_7_166, wq_7_168, wq_p5_1⟩ hx0 ⟨rfl, by decide⟩ wy_X12_isLetter (fun q hq => m_X12_isLetter l E x0 v7 hx0 _ q hq) rfl rfl (Nat.le_of_ble_eq_true rfl) ⟨rfl, rfl, by decide, by decide⟩ h (fun v11 s12 h => ?_)
          refine wr_if_eq 155 (wg_da dt_X12_reads 50 rfl) (by decide) h (fun h => ?_) (fun h => ?_)
          · refine wr_aload_n (wg_da dt_X12_reads 81 rfl) rfl ?_
            refine wr_iload_n (wg_da dt_X12_reads 82 rfl) rfl ?_
            refine wr_callVi [.int v7] [] (wg_da dt_X12_reads 83 rfl) ⟨wq_7_174, wq_7_176, wq_p5_3⟩ hx0 ⟨rfl, by decide⟩ wy_X12_isDigit (fun q hq => m_X12_isDigit l E x0 v7 hx0 _ q hq) rfl rfl (Nat.le_of_ble_eq_true rfl) ⟨rfl, rfl, by decide, by decide⟩ h (fun v13 s14 h => ?_)
            refine wr_if_eq 260 (wg_da dt_X12_reads 84 rfl) (by decide) h (fun h => ?_) (fun h => ?_)
            · refine wr_aload_n (wg_da dt_X12_reads 135 rfl) rfl ?_
              refine wr_iload_n (wg_da dt_X12_reads 136 rfl) rfl ?_
              refine wr_callVi [.int v7] [] (wg_da dt_X12_reads 137 rfl) ⟨wq_7_178, wq_7_180, wq_p5_4⟩ hx0 ⟨rfl, by decide⟩ wy_X12_isMarkSign (fun q hq => m_X12_isMarkSign l E x0 v7 hx0 _ q hq) rfl rfl (Nat.le_of_ble_eq_true rfl) ⟨rfl, rfl, by decide, by decide⟩ h (fun v15 s16 h => ?_)
              refine wr_if_eq 273 (wg_da dt_X12_reads 138 rfl) (by decide) h (fun h => ?_) (fun h => ?_)
              · exact wr_vret (wg_da dt_X12_reads 142 rfl) h
              · refine wr_aload_n (wg_da dt_X12_reads 139 rfl) rfl ?_
                refine wr_iconst (4 : Int32) (wg_da dt_X12_reads 140 rfl) (by decide) ?_
                refine wr_putI wfp_X12_188 (wg_da dt_X12_reads 141 rfl) hx0 h (fun s17 h => ?_)
                exact wr_vret (wg_da dt_X12_reads 142 rfl) h
            · refine wr_aload_n (wg_da dt_X12_reads 85 rfl) rfl ?_
              refine wr_iload_n (wg_da dt_X12_reads 86 rfl) rfl ?_
              refine wr_bipush (48 : Int32) (wg_da dt_X12_reads 87 rfl) (by decide) ?_
              refine wr_isub (wg_da dt_X12_reads 88 rfl) ?_
              refine wr_putI wfp_X12_191 (wg_da dt_X12_reads 89 rfl) hx0 h (fun s18 h => ?_)
              exact wr_wk [true, false] (g_X12_reads_171 l E  _  wg_N x0 s18 hx0 h)
          · exact wr_wk [true, false] (g_X12_reads_95 l E  _  wg_N x0 s12 hx0 h)
set_option maxRecDepth 20000 in
theorem g_X12_reads_e (l : Launch) (E : wg_E)  (x0 : Nat) (σ : wg_M) (z : Int32 × wg_M) (hx0 : wg_t Sm x0 = 14) (h : f_X12_reads  x0 σ = some z) : wg_G l E Sm "WornWigsModel" cX12_reads 2 none rm_X12_reads none z.2 0 [some (.ref x0), none] [] σ := by
  exact wr_wk [true, false] (g_X12_reads_0 l E  _  wg_N x0 σ hx0 h)
theorem m_X12_reads (l : Launch) (E : wg_E) (x0 : Nat) (hx0 : wg_t Sm x0 = 14) (σ : wg_M) (q : Int32 × wg_M) (h : f_X12_reads x0 σ = some q) : wg_MG l E Sm yX12_reads cX12_reads 2 none rm_X12_reads [.ref x0] σ none q.2 :=
  wg_met [.ref x0] (plainFor_of_name (by decide)) (Nat.le_of_ble_eq_true rfl) (g_X12_reads_e l E x0 σ q hx0 h)
abbrev rm_X12_errs : Room := { frames := 0, cells := 0, slots := 0, locals := 0 }
def tb_X12_errs : List (Nat × Instr × Nat) := [(0, .aload_n 0, 1), (1, .iload_n 1, 1), (2, .putfield 206, 3), (5, .aload_n 0, 1), (6, .aload_n 0, 1), (7, .getfield 185, 3), (10, .putfield 209, 3), (13, .iconst (-1), 1), (14, .ireturn, 1)]
theorem dt_X12_errs : wg_dc cX12_errs tb_X12_errs := by unfold wg_dc; decide +kernel
def f_X12_errs  (x0 : Nat) (x1 : Int32) (σ : wg_M) : Option (Int32 × wg_M) := wg_st σ x0 33 x1 (fun s1 => wg_st s1 x0 34 (s1 x0 17) (fun s2 => some ((-1 : Int32), s2)))
set_option maxRecDepth 20000 in
theorem g_X12_errs_e (l : Launch) (E : wg_E)  (x0 : Nat) (x1 : Int32) (σ : wg_M) (z : Int32 × wg_M) (hx0 : wg_t Sm x0 = 14) (h : f_X12_errs  x0 x1 σ = some z) : wg_G l E Sm "WornWigsModel" cX12_errs 2 (some .int) rm_X12_errs (some z.1) z.2 0 [some (.ref x0), some (.int x1)] [] σ := by
  refine wr_aload_n (wg_da dt_X12_errs 0 rfl) rfl ?_
  refine wr_iload_n (wg_da dt_X12_errs 1 rfl) rfl ?_
  refine wr_putI wfp_X12_206 (wg_da dt_X12_errs 2 rfl) hx0 h (fun s1 h => ?_)
  refine wr_aload_n (wg_da dt_X12_errs 3 rfl) rfl ?_
  refine wr_aload_n (wg_da dt_X12_errs 4 rfl) rfl ?_
  refine wr_getI wf_X12_185 (wg_da dt_X12_errs 5 rfl) hx0 ?_
  refine wr_putI wfp_X12_209 (wg_da dt_X12_errs 6 rfl) hx0 h (fun s2 h => ?_)
  refine wr_iconst (-1 : Int32) (wg_da dt_X12_errs 7 rfl) (by decide) ?_
  exact wr_iret (wg_da dt_X12_errs 8 rfl) h
theorem m_X12_errs (l : Launch) (E : wg_E) (x0 : Nat) (x1 : Int32) (hx0 : wg_t Sm x0 = 14) (σ : wg_M) (q : Int32 × wg_M) (h : f_X12_errs x0 x1 σ = some q) : wg_MG l E Sm yX12_errs cX12_errs 2 (some .int) rm_X12_errs [.ref x0, .int x1] σ (some q.1) q.2 :=
  wg_met [.ref x0, .int x1] (plainFor_of_name (by decide)) (Nat.le_of_ble_eq_true rfl) (g_X12_errs_e l E x0 x1 σ q hx0 h)
abbrev rm_X12_isWord : Room := { frames := 0, cells := 0, slots := 0, locals := 0 }
def tb_X12_isWord : List (Nat × Instr × Nat) := [(0, .aload_n 0, 1), (1, .getfield 188, 3), (4, .iconst 2, 1), (5, .if_icmp .ne 15, 3), (8, .aload_n 0, 1), (9, .getfield 191, 3), (12, .iload_n 1, 1), (13, .if_icmp .ne 7, 3), (16, .iconst 1, 1), (17, .goto 4, 3), (20, .iconst 0, 1), (21, .ireturn, 1)]
theorem dt_X12_isWord : wg_dc cX12_isWord tb_X12_isWord := by unfold wg_dc; decide +kernel
def f_X12_isWord  (x0 : Nat) (x1 : Int32) (σ : wg_M) : Option (Int32 × wg_M) := if (σ x0 18) = (2 : Int32) then (if (σ x0 19) = x1 then (some ((1 : Int32), σ)) else (some ((0 : Int32), σ))) else (some ((0 : Int32), σ))
set_option maxRecDepth 20000 in
theorem g_X12_isWord_e (l : Launch) (E : wg_E)  (x0 : Nat) (x1 : Int32) (σ : wg_M) (z : Int32 × wg_M) (hx0 : wg_t Sm x0 = 14) (h : f_X12_isWord  x0 x1 σ = some z) : wg_G l E Sm "WornWigsModel" cX12_isWord 2 (some .boolean) rm_X12_isWord (some z.1) z.2 0 [some (.ref x0), some (.int x1)] [] σ := by
  refine wr_aload_n (wg_da dt_X12_isWord 0 rfl) rfl ?_
  refine wr_getI wf_X12_188 (wg_da dt_X12_isWord 1 rfl) hx0 ?_
  refine wr_iconst (2 : Int32) (wg_da dt_X12_isWord 2 rfl) (by decide) ?_
  refine wr_icmp_ne 20 (wg_da dt_X12_isWord 3 rfl) (by decide) h (fun h => ?_) (fun h => ?_)
  · refine wr_aload_n (wg_da dt_X12_isWord 4 rfl) rfl ?_
    refine wr_getI wf_X12_191 (wg_da dt_X12_isWord 5 rfl) hx0 ?_
    refine wr_iload_n (wg_da dt_X12_isWord 6 rfl) rfl ?_
    refine wr_icmp_ne 20 (wg_da dt_X12_isWord 7 rfl) (by decide) h (fun h => ?_) (fun h => ?_)
    · refine wr_iconst (1 : Int32) (wg_da dt_X12_isWord 8 rfl) (by decide) ?_
      refine wr_goto 21 (wg_da dt_X12_isWord 9 rfl) (by decide) ?_
      exact wr_zret1 (wg_da dt_X12_isWord 11 rfl) h
    · refine wr_iconst (0 : Int32) (wg_da dt_X12_isWord 10 rfl) (by decide) ?_
      exact wr_zret0 (wg_da dt_X12_isWord 11 rfl) h
  · refine wr_iconst (0 : Int32) (wg_da dt_X12_isWord 10 rfl) (by decide) ?_
    exact wr_zret0 (wg_da dt_X12_isWord 11 rfl) h
theorem m_X12_isWord (l : Launch) (E : wg_E) (x0 : Nat) (x1 : Int32) (hx0 : wg_t Sm x0 = 14) (σ : wg_M) (q : Int32 × wg_M) (h : f_X12_isWord x0 x1 σ = some q) : wg_MG l E Sm yX12_isWord cX12_isWord 2 (some .boolean) rm_X12_isWord [.ref x0, .int x1] σ (some q.1) q.2 :=
  wg_met [.ref x0, .int x1] (plainFor_of_name (by decide)) (Nat.le_of_ble_eq_true rfl) (g_X12_isWord_e l E x0 x1 σ q hx0 h)
abbrev rm_X12_isSign : Room := { frames := 0, cells := 0, slots := 0, locals := 0 }
def tb_X12_isSign : List (Nat × Instr × Nat) := [(0, .aload_n 0, 1), (1, .getfield 188, 3), (4, .iconst 4, 1), (5, .if_icmp .ne 15, 3), (8, .aload_n 0, 1), (9, .getfield 191, 3), (12, .iload_n 1, 1), (13, .if_icmp .ne 7, 3), (16, .iconst 1, 1), (17, .goto 4, 3), (20, .iconst 0, 1), (21, .ireturn, 1)]
theorem dt_X12_isSign : wg_dc cX12_isSign tb_X12_isSign := by unfold wg_dc; decide +kernel
def f_X12_isSign  (x0 : Nat) (x1 : Int32) (σ : wg_M) : Option (Int32 × wg_M) := if (σ x0 18) = (4 : Int32) then (if (σ x0 19) = x1 then (some ((1 : Int32), σ)) else (some ((0 : Int32), σ))) else (some ((0 : Int32), σ))
set_option maxRecDepth 20000 in
theorem g_X12_isSign_e (l : Launch) (E : wg_E)  (x0 : Nat) (x1 : Int32) (σ : wg_M) (z : Int32 × wg_M) (hx0 : wg_t Sm x0 = 14) (h : f_X12_isSign  x0 x1 σ = some z) : wg_G l E Sm "WornWigsModel" cX12_isSign 2 (some .boolean) rm_X12_isSign (some z.1) z.2 0 [some (.ref x0), some (.int x1)] [] σ := by
  refine wr_aload_n (wg_da dt_X12_isSign 0 rfl) rfl ?_
  refine wr_getI wf_X12_188 (wg_da dt_X12_isSign 1 rfl) hx0 ?_
  refine wr_iconst (4 : Int32) (wg_da dt_X12_isSign 2 rfl) (by decide) ?_
  refine wr_icmp_ne 20 (wg_da dt_X12_isSign 3 rfl) (by decide) h (fun h => ?_) (fun h => ?_)
  · refine wr_aload_n (wg_da dt_X12_isSign 4 rfl) rfl ?_
    refine wr_getI wf_X12_191 (wg_da dt_X12_isSign 5 rfl) hx0 ?_
    refine wr_iload_n (wg_da dt_X12_isSign 6 rfl) rfl ?_
    refine wr_icmp_ne 20 (wg_da dt_X12_isSign 7 rfl) (by decide) h (fun h => ?_) (fun h => ?_)
    · refine wr_iconst (1 : Int32) (wg_da dt_X12_isSign 8 rfl) (by decide) ?_
      refine wr_goto 21 (wg_da dt_X12_isSign 9 rfl) (by decide) ?_
      exact wr_zret1 (wg_da dt_X12_isSign 11 rfl) h
    · refine wr_iconst (0 : Int32) (wg_da dt_X12_isSign 10 rfl) (by decide) ?_
      exact wr_zret0 (wg_da dt_X12_isSign 11 rfl) h
  · refine wr_iconst (0 : Int32) (wg_da dt_X12_isSign 10 rfl) (by decide) ?_
    exact wr_zret0 (wg_da dt_X12_isSign 11 rfl) h
theorem m_X12_isSign (l : Launch) (E : wg_E) (x0 : Nat) (x1 : Int32) (hx0 : wg_t Sm x0 = 14) (σ : wg_M) (q : Int32 × wg_M) (h : f_X12_isSign x0 x1 σ = some q) : wg_MG l E Sm yX12_isSign cX12_isSign 2 (some .boolean) rm_X12_isSign [.ref x0, .int x1] σ (some q.1) q.2 :=
  wg_met [.ref x0, .int x1] (plainFor_of_name (by decide)) (Nat.le_of_ble_eq_true rfl) (g_X12_isSign_e l E x0 x1 σ q hx0 h)
abbrev rm_X12_emits : Room := { frames := 0, cells := 0, slots := 0, locals := 0 }
def tb_X12_emits : List (Nat × Instr × Nat) := [(0, .aload_n 0, 1), (1, .getfield 55, 3), (4, .sipush 800, 3), (7, .aload_n 0, 1), (8, .getfield 212, 3), (11, .iadd, 1), (12, .iload_n 1, 1), (13, .iastore, 1), (14, .aload_n 0, 1), (15, .getfield 58, 3), (18, .sipush 800, 3), (21, .aload_n 0, 1), (22, .getfield 212, 3), (25, .iadd, 1), (26, .iload_n 2, 1), (27, .iastore, 1), (28, .aload_n 0, 1), (29, .aload_n 0, 1), (30, .getfield 212, 3), (33, .iconst 1, 1), (34, .iadd, 1), (35, .putfield 212, 3), (38, .return_, 1)]
theorem dt_X12_emits : wg_dc cX12_emits tb_X12_emits := by unfold wg_dc; decide +kernel
def f_X12_emits  (x0 : Nat) (x1 : Int32) (x2 : Int32) (σ : wg_M) : Option (Int32 × wg_M) := wg_sa (wg_n Sm (wg_r Sm x0 26)) σ (wg_r Sm x0 26) ((800 : Int32) + (σ x0 29)) x1 (fun s1 => wg_sa (wg_n Sm (wg_r Sm x0 27)) s1 (wg_r Sm x0 27) ((800 : Int32) + (s1 x0 29)) x2 (fun s2 => wg_st s2 x0 29 ((s2 x0 29) + (1 : Int32)) (fun s3 => some (0, s3))))
set_option maxRecDepth 20000 in
theorem g_X12_emits_e (l : Launch) (E : wg_E)  (x0 : Nat) (x1 : Int32) (x2 : Int32) (σ : wg_M) (z : Int32 × wg_M) (hx0 : wg_t Sm x0 = 14) (h : f_X12_emits  x0 x1 x2 σ = some z) : wg_G l E Sm "WornWigsModel" cX12_emits 3 none rm_X12_emits none z.2 0 [some (.ref x0), some (.int x1), some (.int x2)] [] σ := by
  refine wr_aload_n (wg_da dt_X12_emits 0 rfl) rfl ?_
  refine wr_getR wf_X12_55 (wg_da dt_X12_emits 1 rfl) hx0 ?_
  refine wr_sipush (800 : Int32) (wg_da dt_X12_emits 2 rfl) (by decide) ?_
  refine wr_aload_n (wg_da dt_X12_emits 3 rfl) rfl ?_
  refine wr_getI wf_X12_212 (wg_da dt_X12_emits 4 rfl) hx0 ?_
  refine wr_iadd (wg_da dt_X12_emits 5 rfl) ?_
  refine wr_iload_n (wg_da dt_X12_emits 6 rfl) rfl ?_
  refine wr_iast (wg_da dt_X12_emits 7 rfl) (wg_ty Sm_ok 12 26 0 hx0 rfl (by decide)).2 h (fun s1 h => ?_)
  refine wr_aload_n (wg_da dt_X12_emits 8 rfl) rfl ?_
  refine wr_getR wf_X12_58 (wg_da dt_X12_emits 9 rfl) hx0 ?_
  refine wr_sipush (800 : Int32) (wg_da dt_X12_emits 10 rfl) (by decide) ?_
  refine wr_aload_n (wg_da dt_X12_emits 11 rfl) rfl ?_
  refine wr_getI wf_X12_212 (wg_da dt_X12_emits 12 rfl) hx0 ?_
  refine wr_iadd (wg_da dt_X12_emits 13 rfl) ?_
  refine wr_iload_n (wg_da dt_X12_emits 14 rfl) rfl ?_
  refine wr_iast (wg_da dt_X12_emits 15 rfl) (wg_ty Sm_ok 12 27 0 hx0 rfl (by decide)).2 h (fun s2 h => ?_)
  refine wr_aload_n (wg_da dt_X12_emits 16 rfl) rfl ?_
  refine wr_aload_n (wg_da dt_X12_emits 17 rfl) rfl ?_
  refine wr_getI wf_X12_212 (wg_da dt_X12_emits 18 rfl) hx0 ?_
  refine wr_iconst (1 : Int32) (wg_da dt_X12_emits 19 rfl) (by decide) ?_
  refine wr_iadd (wg_da dt_X12_emits 20 rfl) ?_
  refine wr_putI wfp_X12_212 (wg_da dt_X12_emits 21 rfl) hx0 h (fun s3 h => ?_)
  exact wr_vret (wg_da dt_X12_emits 22 rfl) h
theorem m_X12_emits (l : Launch) (E : wg_E) (x0 : Nat) (x1 : Int32) (x2 : Int32) (hx0 : wg_t Sm x0 = 14) (σ : wg_M) (q : Int32 × wg_M) (h : f_X12_emits x0 x1 x2 σ = some q) : wg_MG l E Sm yX12_emits cX12_emits 3 none rm_X12_emits [.ref x0, .int x1, .int x2] σ none q.2 :=
  wg_met [.ref x0, .int x1, .int x2] (plainFor_of_name (by decide)) (Nat.le_of_ble_eq_true rfl) (g_X12_emits_e l E x0 x1 x2 σ q hx0 h)
abbrev rm_X12_canAsk : Room := { frames := 1, cells := 0, slots := 0, locals := 23 }
def tb_X12_canAsk : List (Nat × Instr × Nat) := [(0, .aload_n 0, 1), (1, .iload_n 1, 1), (2, .bipush 7, 2), (4, .bipush 16, 2), (6, .invokevirtual 153, 3), (9, .ireturn, 1)]
theorem dt_X12_canAsk : wg_dc cX12_canAsk tb_X12_canAsk := by unfold wg_dc; decide +kernel
def f_X12_canAsk  (x0 : Nat) (x1 : Int32) (σ : wg_M) : Option (Int32 × wg_M) := wg_bd (f_X12_isIn x0 x1 (7 : Int32) (16 : Int32) σ) (fun v1 s2 => wg_bz v1 (some (v1, s2)))
set_option maxRecDepth 20000 in
theorem g_X12_canAsk_e (l : Launch) (E : wg_E)  (x0 : Nat) (x1 : Int32) (σ : wg_M) (z : Int32 × wg_M) (hx0 : wg_t Sm x0 = 14) (h : f_X12_canAsk  x0 x1 σ = some z) : wg_G l E Sm "WornWigsModel" cX12_canAsk 2 (some .boolean) rm_X12_canAsk (some z.1) z.2 0 [some (.ref x0), some (.int x1)] [] σ := by
  refine wr_aload_n (wg_da dt_X12_canAsk 0 rfl) rfl ?_
  refine wr_iload_n (wg_da dt_X12_canAsk 1 rfl) rfl ?_
  refine wr_bipush (7 : Int32) (wg_da dt_X12_canAsk 2 rfl) (by decide) ?_
  refine wr_bipush (16 : Int32) (wg_da dt_X12_canAsk 3 rfl) (by decide) ?_
  refine wr_callVi [.int x1, .int (7 : Int32), .int (16 : Int32)] [] (wg_da dt_X12_canAsk 4 rfl) ⟨wq_7_82, wq_7_84, wq_p4_3⟩ hx0 ⟨rfl, by decide⟩ wy_X12_isIn (fun q hq => m_X12_isIn l E x0 x1 (7 : Int32) (16 : Int32) hx0 _ q hq) rfl rfl (Nat.le_of_ble_eq_true rfl) ⟨rfl, rfl, by decide, by decide⟩ h (fun v1 s2 h => ?_)
  exact wr_zret (wg_da dt_X12_canAsk 5 rfl) h
theorem m_X12_canAsk (l : Launch) (E : wg_E) (x0 : Nat) (x1 : Int32) (hx0 : wg_t Sm x0 = 14) (σ : wg_M) (q : Int32 × wg_M) (h : f_X12_canAsk x0 x1 σ = some q) : wg_MG l E Sm yX12_canAsk cX12_canAsk 2 (some .boolean) rm_X12_canAsk [.ref x0, .int x1] σ (some q.1) q.2 :=
  wg_met [.ref x0, .int x1] (plainFor_of_name (by decide)) (Nat.le_of_ble_eq_true rfl) (g_X12_canAsk_e l E x0 x1 σ q hx0 h)
abbrev rm_X12_readUnit : Room := { frames := 3, cells := 0, slots := 0, locals := 65 }
def tb_X12_readUnit : List (Nat × Instr × Nat) := [(0, .aload_n 0, 1), (1, .getfield 188, 3), (4, .iconst 2, 1), (5, .if_icmp .ne 18, 3), (8, .aload_n 0, 1), (9, .aload_n 0, 1), (10, .getfield 191, 3), (13, .invokevirtual 215, 3), (16, .ifCond .eq 7, 3), (19, .iconst 1, 1), (20, .goto 4, 3), (23, .iconst 0, 1), (24, .istore_n 1, 1), (25, .iload_n 1, 1), (26, .ifCond .ne 17, 3), (29, .aload_n 0, 1), (30, .getfield 188, 3), (33, .iconst 3, 1), (34, .if_icmp .eq 9, 3), (37, .aload_n 0, 1), (38, .iconst 1, 1), (39, .invokevirtual 218, 3), (42, .ireturn, 1), (43, .aload_n 0, 1), (44, .iload_n 1, 1), (45, .ifCond .eq 7, 3), (48, .iconst 1, 1), (49, .goto 4, 3), (52, .iconst 0, 1), (53, .iload_n 1, 1), (54, .ifCond .eq 13, 3), (57, .aload_n 0, 1), (58, .getfield 191, 3), (61, .bipush 7, 2), (63, .isub, 1), (64, .goto 7, 3), (67, .aload_n 0, 1), (68, .getfield 191, 3), (71, .invokevirtual 221, 3), (74, .aload_n 0, 1), (75, .invokevirtual 225, 3), (78, .iconst 0, 1), (79, .ireturn, 1)]
theorem dt_X12_readUnit : wg_dc cX12_readUnit tb_X12_readUnit := by unfold wg_dc; decide +kernel
def f_X12_readUnit_71  (x0 : Nat) (t0 : Int32) (t1 : Int32) (t2 : Nat) (σ : wg_M) : Option (Int32 × wg_M) := wg_bd (f_X12_emits t2 t1 t0 σ) (fun _ s1 => wg_bd (f_X12_reads x0 s1) (fun _ s2 => some ((0 : Int32), s2)))
def f_X12_readUnit_53  (x0 : Nat) (x1 : Int32) (t0 : Int32) (t1 : Nat) (σ : wg_M) : Option (Int32 × wg_M) := if x1 = 0 then (f_X12_readUnit_71  x0 (σ x0 19) t0 t1 σ) else (f_X12_readUnit_71  x0 ((σ x0 19) - (7 : Int32)) t0 t1 σ)
def f_X12_readUnit_43  (x0 : Nat) (x1 : Int32) (σ : wg_M) : Option (Int32 × wg_M) := if x1 = 0 then (f_X12_readUnit_53  x0 x1 (0 : Int32) x0 σ) else (f_X12_readUnit_53  x0 x1 (1 : Int32) x0 σ)
def f_X12_readUnit_24  (x0 : Nat) (t0 : Int32) (σ : wg_M) : Option (Int32 × wg_M) := if t0 = 0 then (if (σ x0 18) = (3 : Int32) then (f_X12_readUnit_43  x0 t0 σ) else (wg_bd (f_X12_errs x0 (1 : Int32) σ) (fun v1 s2 => some (v1, s2)))) else (f_X12_readUnit_43  x0 t0 σ)
def f_X12_readUnit_23  (x0 : Nat) (σ : wg_M) : Option (Int32 × wg_M) := f_X12_readUnit_24  x0 (0 : Int32) σ
def f_X12_readUnit  (x0 : Nat) (σ : wg_M) : Option (Int32 × wg_M) := if (σ x0 18) = (2 : Int32) then (wg_bd (f_X12_canAsk x0 (σ x0 19) σ) (fun v1 s2 => if v1 = 0 then (f_X12_readUnit_23  x0 s2) else (f_X12_readUnit_24  x0 (1 : Int32) s2))) else (f_X12_readUnit_23  x0 σ)
set_option maxRecDepth 20000 in
theorem g_X12_readUnit_71 (l : Launch) (E : wg_E)  (x0 : Nat) (t0 : Int32) (t1 : Int32) (t2 : Nat) (σ : wg_M) (z : Int32 × wg_M) (hx0 : wg_t Sm x0 = 14) (ht2 : wg_t Sm t2 = 14) (h : f_X12_readUnit_71  x0 t0 t1 t2 σ = some z) : wg_G l E Sm "WornWigsModel" cX12_readUnit 2 (some .int) rm_X12_readUnit (some z.1) z.2 71 [some (.ref x0), none] [.int t0, .int t1, .ref t2] σ := by
  refine wr_callVv [.int t1, .int t0] [] (wg_da dt_X12_readUnit 38 rfl) ⟨wq_8_22, wq_8_24, wq_p6_9⟩ ht2 ⟨rfl, by decide⟩ wy_X12_emits (fun q hq => m_X12_emits l E t2 t1 t0 ht2 _ q hq) rfl rfl (Nat.le_of_ble_eq_true rfl) ⟨rfl, rfl, by decide, by decide⟩ h (fun _ s1 h => ?_)
  refine wr_aload_n (wg_da dt_X12_readUnit 39 rfl) rfl ?_
  refine wr_callVv [] [] (wg_da dt_X12_readUnit 40 rfl) ⟨wq_7_158, wq_7_160, wq_p4_15⟩ hx0 ⟨rfl, by decide⟩ wy_X12_reads (fun q hq => m_X12_reads l E x0 hx0 _ q hq) rfl rfl (Nat.le_of_ble_eq_true rfl) ⟨rfl, rfl, by decide, by decide⟩ h (fun _ s2 h => ?_)
  refine wr_iconst (0 : Int32) (wg_da dt_X12_readUnit 41 rfl) (by decide) ?_
  exact wr_iret (wg_da dt_X12_readUnit 42 rfl) h
set_option maxRecDepth 20000 in
theorem g_X12_readUnit_53 (l : Launch) (E : wg_E)  (x0 : Nat) (x1 : Int32) (t0 : Int32) (t1 : Nat) (σ : wg_M) (z : Int32 × wg_M) (hx0 : wg_t Sm x0 = 14) (ht1 : wg_t Sm t1 = 14) (h : f_X12_readUnit_53  x0 x1 t0 t1 σ = some z) : wg_G l E Sm "WornWigsModel" cX12_readUnit 2 (some .int) rm_X12_readUnit (some z.1) z.2 53 [some (.ref x0), some (.int x1)] [.int t0, .ref t1] σ := by
  refine wr_iload_n (wg_da dt_X12_readUnit 29 rfl) rfl ?_
  refine wr_if_eq 67 (wg_da dt_X12_readUnit 30 rfl) (by decide) h (fun h => ?_) (fun h => ?_)
  · refine wr_aload_n (wg_da dt_X12_readUnit 36 rfl) rfl ?_
    refine wr_getI wf_X12_191 (wg_da dt_X12_readUnit 37 rfl) hx0 ?_
    exact wr_wk [true, false] (g_X12_readUnit_71 l E  x0 (σ x0 19) t0 t1 σ _ hx0 ht1  h)
  · refine wr_aload_n (wg_da dt_X12_readUnit 31 rfl) rfl ?_
    refine wr_getI wf_X12_191 (wg_da dt_X12_readUnit 32 rfl) hx0 ?_
    refine wr_bipush (7 : Int32) (wg_da dt_X12_readUnit 33 rfl) (by decide) ?_
    refine wr_isub (wg_da dt_X12_readUnit 34 rfl) ?_
    refine wr_goto 71 (wg_da dt_X12_readUnit 35 rfl) (by decide) ?_
    exact wr_wk [true, false] (g_X12_readUnit_71 l E  x0 ((σ x0 19) - (7 : Int32)) t0 t1 σ _ hx0 ht1  h)
set_option maxRecDepth 20000 in
theorem g_X12_readUnit_43 (l : Launch) (E : wg_E)  (x0 : Nat) (x1 : Int32) (σ : wg_M) (z : Int32 × wg_M) (hx0 : wg_t Sm x0 = 14) (h : f_X12_readUnit_43  x0 x1 σ = some z) : wg_G l E Sm "WornWigsModel" cX12_readUnit 2 (some .int) rm_X12_readUnit (some z.1) z.2 43 [some (.ref x0), some (.int x1)] [] σ := by
  refine wr_aload_n (wg_da dt_X12_readUnit 23 rfl) rfl ?_
  refine wr_iload_n (wg_da dt_X12_readUnit 24 rfl) rfl ?_
  refine wr_if_eq 52 (wg_da dt_X12_readUnit 25 rfl) (by decide) h (fun h => ?_) (fun h => ?_)
  · refine wr_iconst (0 : Int32) (wg_da dt_X12_readUnit 28 rfl) (by decide) ?_
    exact wr_wk [true, true] (g_X12_readUnit_53 l E  x0 x1 (0 : Int32) x0 σ _ hx0 hx0  h)
  · refine wr_iconst (1 : Int32) (wg_da dt_X12_readUnit 26 rfl) (by decide) ?_
    refine wr_goto 53 (wg_da dt_X12_readUnit 27 rfl) (by decide) ?_
    exact wr_wk [true, true] (g_X12_readUnit_53 l E  x0 x1 (1 : Int32) x0 σ _ hx0 hx0  h)
set_option maxRecDepth 20000 in
theorem g_X12_readUnit_24 (l : Launch) (E : wg_E)  (x0 : Nat) (t0 : Int32) (σ : wg_M) (z : Int32 × wg_M) (hx0 : wg_t Sm x0 = 14) (h : f_X12_readUnit_24  x0 t0 σ = some z) : wg_G l E Sm "WornWigsModel" cX12_readUnit 2 (some .int) rm_X12_readUnit (some z.1) z.2 24 [some (.ref x0), none] [.int t0] σ := by
  refine wr_istore_n (wg_da dt_X12_readUnit 12 rfl) (by decide) ?_
  refine wr_iload_n (wg_da dt_X12_readUnit 13 rfl) rfl ?_
  refine wr_if_ne 43 (wg_da dt_X12_readUnit 14 rfl) (by decide) h (fun h => ?_) (fun h => ?_)
  · refine wr_aload_n (wg_da dt_X12_readUnit 15 rfl) rfl ?_
    refine wr_getI wf_X12_188 (wg_da dt_X12_readUnit 16 rfl) hx0 ?_
    refine wr_iconst (3 : Int32) (wg_da dt_X12_readUnit 17 rfl) (by decide) ?_
    refine wr_icmp_eq 43 (wg_da dt_X12_readUnit 18 rfl) (by decide) h (fun h => ?_) (fun h => ?_)
    · exact wr_wk [true, true] (g_X12_readUnit_43 l E  x0 t0 σ _ hx0  h)
    · refine wr_aload_n (wg_da dt_X12_readUnit 19 rfl) rfl ?_
      refine wr_iconst (1 : Int32) (wg_da dt_X12_readUnit 20 rfl) (by decide) ?_
      refine wr_callVi [.int (1 : Int32)] [] (wg_da dt_X12_readUnit 21 rfl) ⟨wq_7_190, wq_7_192, wq_p5_7⟩ hx0 ⟨rfl, by decide⟩ wy_X12_errs (fun q hq => m_X12_errs l E x0 (1 : Int32) hx0 _ q hq) rfl rfl (Nat.le_of_ble_eq_true rfl) ⟨rfl, rfl, by decide, by decide⟩ h (fun v1 s2 h => ?_)
      exact wr_iret (wg_da dt_X12_readUnit 22 rfl) h
  · exact wr_wk [true, true] (g_X12_readUnit_43 l E  x0 t0 σ _ hx0  h)
set_option maxRecDepth 20000 in
theorem g_X12_readUnit_23 (l : Launch) (E : wg_E)  (x0 : Nat) (σ : wg_M) (z : Int32 × wg_M) (hx0 : wg_t Sm x0 = 14) (h : f_X12_readUnit_23  x0 σ = some z) : wg_G l E Sm "WornWigsModel" cX12_readUnit 2 (some .int) rm_X12_readUnit (some z.1) z.2 23 [some (.ref x0), none] [] σ := by
  refine wr_iconst (0 : Int32) (wg_da dt_X12_readUnit 11 rfl) (by decide) ?_
  exact wr_wk [true, false] (g_X12_readUnit_24 l E  x0 (0 : Int32) σ _ hx0  h)
set_option maxRecDepth 20000 in
theorem g_X12_readUnit_e (l : Launch) (E : wg_E)  (x0 : Nat) (σ : wg_M) (z : Int32 × wg_M) (hx0 : wg_t Sm x0 = 14) (h : f_X12_readUnit  x0 σ = some z) : wg_G l E Sm "WornWigsModel" cX12_readUnit 2 (some .int) rm_X12_readUnit (some z.1) z.2 0 [some (.ref x0), none] [] σ := by
  refine wr_aload_n (wg_da dt_X12_readUnit 0 rfl) rfl ?_
  refine wr_getI wf_X12_188 (wg_da dt_X12_readUnit 1 rfl) hx0 ?_
  refine wr_iconst (2 : Int32) (wg_da dt_X12_readUnit 2 rfl) (by decide) ?_
  refine wr_icmp_ne 23 (wg_da dt_X12_readUnit 3 rfl) (by decide) h (fun h => ?_) (fun h => ?_)
  · refine wr_aload_n (wg_da dt_X12_readUnit 4 rfl) rfl ?_
    refine wr_aload_n (wg_da dt_X12_readUnit 5 rfl) rfl ?_
    refine wr_getI wf_X12_191 (wg_da dt_X12_readUnit 6 rfl) hx0 ?_
    refine wr_callVi [.int (σ x0 19)] [] (wg_da dt_X12_readUnit 7 rfl) ⟨wq_8_18, wq_8_20, wq_p6_8⟩ hx0 ⟨rfl, by decide⟩ wy_X12_canAsk (fun q hq => m_X12_canAsk l E x0 (σ x0 19) hx0 _ q hq) rfl rfl (Nat.le_of_ble_eq_true rfl) ⟨rfl, rfl, by decide, by decide⟩ h (fun v1 s2 h => ?_)
    refine wr_if_eq 23 (wg_da dt_X12_readUnit 8 rfl) (by decide) h (fun h => ?_) (fun h => ?_)
    · exact wr_wk [true, false] (g_X12_readUnit_23 l E  x0 s2 _ hx0  h)
    · refine wr_iconst (1 : Int32) (wg_da dt_X12_readUnit 9 rfl) (by decide) ?_
      refine wr_goto 24 (wg_da dt_X12_readUnit 10 rfl) (by decide) ?_
      exact wr_wk [true, false] (g_X12_readUnit_24 l E  x0 (1 : Int32) s2 _ hx0  h)
  · exact wr_wk [true, false] (g_X12_readUnit_23 l E  x0 σ _ hx0  h)
theorem m_X12_readUnit (l : Launch) (E : wg_E) (x0 : Nat) (hx0 : wg_t Sm x0 = 14) (σ : wg_M) (q : Int32 × wg_M) (h : f_X12_readUnit x0 σ = some q) : wg_MG l E Sm yX12_readUnit cX12_readUnit 2 (some .int) rm_X12_readUnit [.ref x0] σ (some q.1) q.2 :=
  wg_met [.ref x0] (plainFor_of_name (by decide)) (Nat.le_of_ble_eq_true rfl) (g_X12_readUnit_e l E x0 σ q hx0 h)
abbrev rm_X12_readProduct : Room := { frames := 4, cells := 0, slots := 0, locals := 86 }
def tb_X12_readProduct : List (Nat × Instr × Nat) := [(0, .aload_n 0, 1), (1, .invokevirtual 228, 3), (4, .iconst (-1), 1), (5, .if_icmp .ne 5, 3), (8, .iconst (-1), 1), (9, .ireturn, 1), (10, .aload_n 0, 1), (11, .bipush 42, 2), (13, .invokevirtual 232, 3), (16, .ifCond .ne 12, 3), (19, .aload_n 0, 1), (20, .bipush 47, 2), (22, .invokevirtual 232, 3), (25, .ifCond .eq 76, 3), (28, .aload_n 0, 1), (29, .bipush 42, 2), (31, .invokevirtual 232, 3), (34, .istore_n 1, 1), (35, .aload_n 0, 1), (36, .invokevirtual 225, 3), (39, .iload_n 1, 1), (40, .ifCond .ne 17, 3), (43, .aload_n 0, 1), (44, .getfield 188, 3), (47, .iconst 3, 1), (48, .if_icmp .eq 9, 3), (51, .aload_n 0, 1), (52, .iconst 1, 1), (53, .invokevirtual 218, 3), (56, .ireturn, 1), (57, .iload_n 1, 1), (58, .ifCond .ne 16, 3), (61, .aload_n 0, 1), (62, .getfield 191, 3), (65, .ifCond .ne 9, 3), (68, .aload_n 0, 1), (69, .iconst 2, 1), (70, .invokevirtual 218, 3), (73, .ireturn, 1), (74, .aload_n 0, 1), (75, .invokevirtual 228, 3), (78, .iconst (-1), 1), (79, .if_icmp .ne 5, 3), (82, .iconst (-1), 1), (83, .ireturn, 1), (84, .aload_n 0, 1), (85, .iload_n 1, 1), (86, .ifCond .eq 7, 3), (89, .iconst 4, 1), (90, .goto 4, 3), (93, .iconst 5, 1), (94, .iconst 0, 1), (95, .invokevirtual 221, 3), (98, .goto (-88), 3), (101, .iconst 0, 1), (102, .ireturn, 1)]
theorem dt_X12_readProduct : wg_dc cX12_readProduct tb_X12_readProduct := by unfold wg_dc; decide +kernel
def f_X12_readProduct_94 (k10 : Nat → wg_M → Option (Int32 × wg_M)) (x0 : Nat) (t0 : Int32) (t1 : Nat) (σ : wg_M) : Option (Int32 × wg_M) := wg_bd (f_X12_emits t1 t0 (0 : Int32) σ) (fun _ s1 => k10 x0 s1)
def f_X12_readProduct_74 (k10 : Nat → wg_M → Option (Int32 × wg_M)) (x0 : Nat) (x1 : Int32) (σ : wg_M) : Option (Int32 × wg_M) := wg_bd (f_X12_readUnit x0 σ) (fun v1 s2 => if v1 = (-1 : Int32) then (some ((-1 : Int32), s2)) else (if x1 = 0 then (f_X12_readProduct_94 k10 x0 (5 : Int32) x0 s2) else (f_X12_readProduct_94 k10 x0 (4 : Int32) x0 s2)))
def f_X12_readProduct_57 (k10 : Nat → wg_M → Option (Int32 × wg_M)) (x0 : Nat) (x1 : Int32) (σ : wg_M) : Option (Int32 × wg_M) := if x1 = 0 then (if (σ x0 19) = 0 then (wg_bd (f_X12_errs x0 (2 : Int32) σ) (fun v1 s2 => some (v1, s2))) else (f_X12_readProduct_74 k10 x0 x1 σ)) else (f_X12_readProduct_74 k10 x0 x1 σ)
def f_X12_readProduct_28 (k10 : Nat → wg_M → Option (Int32 × wg_M)) (x0 : Nat) (σ : wg_M) : Option (Int32 × wg_M) := wg_bd (f_X12_isSign x0 (42 : Int32) σ) (fun v1 s2 => wg_bd (f_X12_reads x0 s2) (fun _ s3 => if v1 = 0 then (if (s3 x0 18) = (3 : Int32) then (f_X12_readProduct_57 k10 x0 v1 s3) else (wg_bd (f_X12_errs x0 (1 : Int32) s3) (fun v4 s5 => some (v4, s5)))) else (f_X12_readProduct_57 k10 x0 v1 s3)))
def f_X12_readProduct_10  : Nat → Nat → wg_M → Option (Int32 × wg_M)
  | 0, _, _ => none
  | n + 1, x0, σ => wg_bd (f_X12_isSign x0 (42 : Int32) σ) (fun v1 s2 => if v1 = 0 then (wg_bd (f_X12_isSign x0 (47 : Int32) s2) (fun v3 s4 => if v3 = 0 then (some ((0 : Int32), s4)) else (f_X12_readProduct_28 (f_X12_readProduct_10  n) x0 s4))) else (f_X12_readProduct_28 (f_X12_readProduct_10  n) x0 s2))
def f_X12_readProduct  (x0 : Nat) (σ : wg_M) : Option (Int32 × wg_M) := wg_bd (f_X12_readUnit x0 σ) (fun v1 s2 => if v1 = (-1 : Int32) then (some ((-1 : Int32), s2)) else (f_X12_readProduct_10  wg_N x0 s2))
set_option maxRecDepth 20000 in
theorem g_X12_readProduct_94 (l : Launch) (E : wg_E) (k10 : Nat → wg_M → Option (Int32 × wg_M)) (x0 : Nat) (t0 : Int32) (t1 : Nat) (σ : wg_M) (z : Int32 × wg_M) (hx0 : wg_t Sm x0 = 14) (ht1 : wg_t Sm t1 = 14) (hk10 : ∀ (x0 : Nat) (σ : wg_M), wg_t Sm x0 = 14 → k10 x0 σ = some z → wg_G l E Sm "WornWigsModel" cX12_readProduct 2 (some .int) rm_X12_readProduct (some z.1) z.2 10 [some (.ref x0), none] [] σ) (h : f_X12_readProduct_94 k10 x0 t0 t1 σ = some z) : wg_G l E Sm "WornWigsModel" cX12_readProduct 2 (some .int) rm_X12_readProduct (some z.1) z.2 94 [some (.ref x0), none] [.int t0, .ref t1] σ := by
  refine wr_iconst (0 : Int32) (wg_da dt_X12_readProduct 51 rfl) (by decide) ?_
  refine wr_callVv [.int t0, .int (0 : Int32)] [] (wg_da dt_X12_readProduct 52 rfl) ⟨wq_8_22, wq_8_24, wq_p6_9⟩ ht1 ⟨rfl, by decide⟩ wy_X12_emits (fun q hq => m_X12_emits l E t1 t0 (0 : Int32) ht1 _ q hq) rfl rfl (Nat.le_of_ble_eq_true rfl) ⟨rfl, rfl, by decide, by decide⟩ h (fun _ s1 h => ?_)
  refine wr_goto 10 (wg_da dt_X12_readProduct 53 rfl) (by decide) ?_
  exact wr_wk [true, false] (hk10 x0 s1 hx0 h)
set_option maxRecDepth 20000 in
theorem g_X12_readProduct_74 (l : Launch) (E : wg_E) (k10 : Nat → wg_M → Option (Int32 × wg_M)) (x0 : Nat) (x1 : Int32) (σ : wg_M) (z : Int32 × wg_M) (hx0 : wg_t Sm x0 = 14) (hk10 : ∀ (x0 : Nat) (σ : wg_M), wg_t Sm x0 = 14 → k10 x0 σ = some z → wg_G l E Sm "WornWigsModel" cX12_readProduct 2 (some .int) rm_X12_readProduct (some z.1) z.2 10 [some (.ref x0), none] [] σ) (h : f_X12_readProduct_74 k10 x0 x1 σ = some z) : wg_G l E Sm "WornWigsModel" cX12_readProduct 2 (some .int) rm_X12_readProduct (some z.1) z.2 74 [some (.ref x0), some (.int x1)] [] σ := by
  refine wr_aload_n (wg_da dt_X12_readProduct 39 rfl) rfl ?_
  refine wr_callVi [] [] (wg_da dt_X12_readProduct 40 rfl) ⟨wq_8_14, wq_8_16, wq_p6_7⟩ hx0 ⟨rfl, by decide⟩ wy_X12_readUnit (fun q hq => m_X12_readUnit l E x0 hx0 _ q hq) rfl rfl (Nat.le_of_ble_eq_true rfl) ⟨rfl, rfl, by decide, by decide⟩ h (fun v1 s2 h => ?_)
  refine wr_iconst (-1 : Int32) (wg_da dt_X12_readProduct 41 rfl) (by decide) ?_
  refine wr_icmp_ne 84 (wg_da dt_X12_readProduct 42 rfl) (by decide) h (fun h => ?_) (fun h => ?_)
  · refine wr_iconst (-1 : Int32) (wg_da dt_X12_readProduct 43 rfl) (by decide) ?_
    exact wr_iret (wg_da dt_X12_readProduct 44 rfl) h
  · refine wr_aload_n (wg_da dt_X12_readProduct 45 rfl) rfl ?_
    refine wr_iload_n (wg_da dt_X12_readProduct 46 rfl) rfl ?_
    refine wr_if_eq 93 (wg_da dt_X12_readProduct 47 rfl) (by decide) h (fun h => ?_) (fun h => ?_)
    · refine wr_iconst (5 : Int32) (wg_da dt_X12_readProduct 50 rfl) (by decide) ?_
      exact wr_wk [true, false] (g_X12_readProduct_94 l E k10 x0 (5 : Int32) x0 s2 _ hx0 hx0 hk10 h)
    · refine wr_iconst (4 : Int32) (wg_da dt_X12_readProduct 48 rfl) (by decide) ?_
      refine wr_goto 94 (wg_da dt_X12_readProduct 49 rfl) (by decide) ?_
      exact wr_wk [true, false] (g_X12_readProduct_94 l E k10 x0 (4 : Int32) x0 s2 _ hx0 hx0 hk10 h)
set_option maxRecDepth 20000 in
theorem g_X12_readProduct_57 (l : Launch) (E : wg_E) (k10 : Nat → wg_M → Option (Int32 × wg_M)) (x0 : Nat) (x1 : Int32) (σ : wg_M) (z : Int32 × wg_M) (hx0 : wg_t Sm x0 = 14) (hk10 : ∀ (x0 : Nat) (σ : wg_M), wg_t Sm x0 = 14 → k10 x0 σ = some z → wg_G l E Sm "WornWigsModel" cX12_readProduct 2 (some .int) rm_X12_readProduct (some z.1) z.2 10 [some (.ref x0), none] [] σ) (h : f_X12_readProduct_57 k10 x0 x1 σ = some z) : wg_G l E Sm "WornWigsModel" cX12_readProduct 2 (some .int) rm_X12_readProduct (some z.1) z.2 57 [some (.ref x0), some (.int x1)] [] σ := by
  refine wr_iload_n (wg_da dt_X12_readProduct 30 rfl) rfl ?_
  refine wr_if_ne 74 (wg_da dt_X12_readProduct 31 rfl) (by decide) h (fun h => ?_) (fun h => ?_)
  · refine wr_aload_n (wg_da dt_X12_readProduct 32 rfl) rfl ?_
    refine wr_getI wf_X12_191 (wg_da dt_X12_readProduct 33 rfl) hx0 ?_
    refine wr_if_ne 74 (wg_da dt_X12_readProduct 34 rfl) (by decide) h (fun h => ?_) (fun h => ?_)
    · refine wr_aload_n (wg_da dt_X12_readProduct 35 rfl) rfl ?_
      refine wr_iconst (2 : Int32) (wg_da dt_X12_readProduct 36 rfl) (by decide) ?_
      refine wr_callVi [.int (2 : Int32)] [] (wg_da dt_X12_readProduct 37 rfl) ⟨wq_7_190, wq_7_192, wq_p5_7⟩ hx0 ⟨rfl, by decide⟩ wy_X12_errs (fun q hq => m_X12_errs l E x0 (2 : Int32) hx0 _ q hq) rfl rfl (Nat.le_of_ble_eq_true rfl) ⟨rfl, rfl, by decide, by decide⟩ h (fun v1 s2 h => ?_)
      exact wr_iret (wg_da dt_X12_readProduct 38 rfl) h
    · exact wr_wk [true, true] (g_X12_readProduct_74 l E k10 x0 x1 σ _ hx0 hk10 h)
  · exact wr_wk [true, true] (g_X12_readProduct_74 l E k10 x0 x1 σ _ hx0 hk10 h)
set_option maxRecDepth 20000 in
theorem g_X12_readProduct_28 (l : Launch) (E : wg_E) (k10 : Nat → wg_M → Option (Int32 × wg_M)) (x0 : Nat) (σ : wg_M) (z : Int32 × wg_M) (hx0 : wg_t Sm x0 = 14) (hk10 : ∀ (x0 : Nat) (σ : wg_M), wg_t Sm x0 = 14 → k10 x0 σ = some z → wg_G l E Sm "WornWigsModel" cX12_readProduct 2 (some .int) rm_X12_readProduct (some z.1) z.2 10 [some (.ref x0), none] [] σ) (h : f_X12_readProduct_28 k10 x0 σ = some z) : wg_G l E Sm "WornWigsModel" cX12_readProduct 2 (some .int) rm_X12_readProduct (some z.1) z.2 28 [some (.ref x0), none] [] σ := by
  refine wr_aload_n (wg_da dt_X12_readProduct 14 rfl) rfl ?_
  refine wr_bipush (42 : Int32) (wg_da dt_X12_readProduct 15 rfl) (by decide) ?_
  refine wr_callVi [.int (42 : Int32)] [] (wg_da dt_X12_readProduct 16 rfl) ⟨wq_7_210, wq_7_212, wq_p5_12⟩ hx0 ⟨rfl, by decide⟩ wy_X12_isSign (fun q hq => m_X12_isSign l E x0 (42 : Int32) hx0 _ q hq) rfl rfl (Nat.le_of_ble_eq_true rfl) ⟨rfl, rfl, by decide, by decide⟩ h (fun v1 s2 h => ?_)
  refine wr_istore_n (wg_da dt_X12_readProduct 17 rfl) (by decide) ?_
  refine wr_aload_n (wg_da dt_X12_readProduct 18 rfl) rfl ?_
  refine wr_callVv [] [] (wg_da dt_X12_readProduct 19 rfl) ⟨wq_7_158, wq_7_160, wq_p4_15⟩ hx0 ⟨rfl, by decide⟩ wy_X12_reads (fun q hq => m_X12_reads l E x0 hx0 _ q hq) rfl rfl (Nat.le_of_ble_eq_true rfl) ⟨rfl, rfl, by decide, by decide⟩ h (fun _ s3 h => ?_)
  refine wr_iload_n (wg_da dt_X12_readProduct 20 rfl) rfl ?_
  refine wr_if_ne 57 (wg_da dt_X12_readProduct 21 rfl) (by decide) h (fun h => ?_) (fun h => ?_)
  · refine wr_aload_n (wg_da dt_X12_readProduct 22 rfl) rfl ?_
    refine wr_getI wf_X12_188 (wg_da dt_X12_readProduct 23 rfl) hx0 ?_
    refine wr_iconst (3 : Int32) (wg_da dt_X12_readProduct 24 rfl) (by decide) ?_
    refine wr_icmp_eq 57 (wg_da dt_X12_readProduct 25 rfl) (by decide) h (fun h => ?_) (fun h => ?_)
    · exact wr_wk [true, true] (g_X12_readProduct_57 l E k10 x0 v1 s3 _ hx0 hk10 h)
    · refine wr_aload_n (wg_da dt_X12_readProduct 26 rfl) rfl ?_
      refine wr_iconst (1 : Int32) (wg_da dt_X12_readProduct 27 rfl) (by decide) ?_
      refine wr_callVi [.int (1 : Int32)] [] (wg_da dt_X12_readProduct 28 rfl) ⟨wq_7_190, wq_7_192, wq_p5_7⟩ hx0 ⟨rfl, by decide⟩ wy_X12_errs (fun q hq => m_X12_errs l E x0 (1 : Int32) hx0 _ q hq) rfl rfl (Nat.le_of_ble_eq_true rfl) ⟨rfl, rfl, by decide, by decide⟩ h (fun v4 s5 h => ?_)
      exact wr_iret (wg_da dt_X12_readProduct 29 rfl) h
  · exact wr_wk [true, true] (g_X12_readProduct_57 l E k10 x0 v1 s3 _ hx0 hk10 h)
set_option maxRecDepth 20000 in
theorem g_X12_readProduct_10 (l : Launch) (E : wg_E)  (z : Int32 × wg_M) : ∀ (n : Nat) (x0 : Nat) (σ : wg_M) (hx0 : wg_t Sm x0 = 14) (h : f_X12_readProduct_10  n x0 σ = some z), wg_G l E Sm "WornWigsModel" cX12_readProduct 2 (some .int) rm_X12_readProduct (some z.1) z.2 10 [some (.ref x0), none] [] σ := by
  intro n
  induction n with
  | zero => intro x0 σ hx0 h; cases h
  | succ n ih =>
    intro x0 σ hx0 h
    refine wr_aload_n (wg_da dt_X12_readProduct 6 rfl) rfl ?_
    refine wr_bipush (42 : Int32) (wg_da dt_X12_readProduct 7 rfl) (by decide) ?_
    refine wr_callVi [.int (42 : Int32)] [] (wg_da dt_X12_readProduct 8 rfl) ⟨wq_7_210, wq_7_212, wq_p5_12⟩ hx0 ⟨rfl, by decide⟩ wy_X12_isSign (fun q hq => m_X12_isSign l E x0 (42 : Int32) hx0 _ q hq) rfl rfl (Nat.le_of_ble_eq_true rfl) ⟨rfl, rfl, by decide, by decide⟩ h (fun v1 s2 h => ?_)
    refine wr_if_ne 28 (wg_da dt_X12_readProduct 9 rfl) (by decide) h (fun h => ?_) (fun h => ?_)
    · refine wr_aload_n (wg_da dt_X12_readProduct 10 rfl) rfl ?_
      refine wr_bipush (47 : Int32) (wg_da dt_X12_readProduct 11 rfl) (by decide) ?_
      refine wr_callVi [.int (47 : Int32)] [] (wg_da dt_X12_readProduct 12 rfl) ⟨wq_7_210, wq_7_212, wq_p5_12⟩ hx0 ⟨rfl, by decide⟩ wy_X12_isSign (fun q hq => m_X12_isSign l E x0 (47 : Int32) hx0 _ q hq) rfl rfl (Nat.le_of_ble_eq_true rfl) ⟨rfl, rfl, by decide, by decide⟩ h (fun v3 s4 h => ?_)
      refine wr_if_eq 101 (wg_da dt_X12_readProduct 13 rfl) (by decide) h (fun h => ?_) (fun h => ?_)
      · refine wr_iconst (0 : Int32) (wg_da dt_X12_readProduct 54 rfl) (by decide) ?_
        exact wr_iret (wg_da dt_X12_readProduct 55 rfl) h
      · exact wr_wk [true, false] (g_X12_readProduct_28 l E (f_X12_readProduct_10  n) x0 s4 _ hx0 (fun x0 σ hx0 h => ih x0 σ hx0 h) h)
    · exact wr_wk [true, false] (g_X12_readProduct_28 l E (f_X12_readProduct_10  n) x0 s2 _ hx0 (fun x0 σ hx0 h => ih x0 σ hx0 h) h)
set_option maxRecDepth 20000 in
theorem g_X12_readProduct_e (l : Launch) (E : wg_E)  (x0 : Nat) (σ : wg_M) (z : Int32 × wg_M) (hx0 : wg_t Sm x0 = 14) (h : f_X12_readProduct  x0 σ = some z) : wg_G l E Sm "WornWigsModel" cX12_readProduct 2 (some .int) rm_X12_readProduct (some z.1) z.2 0 [some (.ref x0), none] [] σ := by
  refine wr_aload_n (wg_da dt_X12_readProduct 0 rfl) rfl ?_
  refine wr_callVi [] [] (wg_da dt_X12_readProduct 1 rfl) ⟨wq_8_14, wq_8_16, wq_p6_7⟩ hx0 ⟨rfl, by decide⟩ wy_X12_readUnit (fun q hq => m_X12_readUnit l E x0 hx0 _ q hq) rfl rfl (Nat.le_of_ble_eq_true rfl) ⟨rfl, rfl, by decide, by decide⟩ h (fun v1 s2 h => ?_)
  refine wr_iconst (-1 : Int32) (wg_da dt_X12_readProduct 2 rfl) (by decide) ?_
  refine wr_icmp_ne 10 (wg_da dt_X12_readProduct 3 rfl) (by decide) h (fun h => ?_) (fun h => ?_)
  · refine wr_iconst (-1 : Int32) (wg_da dt_X12_readProduct 4 rfl) (by decide) ?_
    exact wr_iret (wg_da dt_X12_readProduct 5 rfl) h
  · exact wr_wk [true, false] (g_X12_readProduct_10 l E  _  wg_N x0 s2 hx0 h)
theorem m_X12_readProduct (l : Launch) (E : wg_E) (x0 : Nat) (hx0 : wg_t Sm x0 = 14) (σ : wg_M) (q : Int32 × wg_M) (h : f_X12_readProduct x0 σ = some q) : wg_MG l E Sm yX12_readProduct cX12_readProduct 2 (some .int) rm_X12_readProduct [.ref x0] σ (some q.1) q.2 :=
  wg_met [.ref x0] (plainFor_of_name (by decide)) (Nat.le_of_ble_eq_true rfl) (g_X12_readProduct_e l E x0 σ q hx0 h)
abbrev rm_X12_readSum : Room := { frames := 5, cells := 0, slots := 0, locals := 107 }
def tb_X12_readSum : List (Nat × Instr × Nat) := [(0, .aload_n 0, 1), (1, .invokevirtual 235, 3), (4, .iconst (-1), 1), (5, .if_icmp .ne 5, 3), (8, .iconst (-1), 1), (9, .ireturn, 1), (10, .aload_n 0, 1), (11, .bipush 43, 2), (13, .invokevirtual 232, 3), (16, .ifCond .ne 12, 3), (19, .aload_n 0, 1), (20, .bipush 45, 2), (22, .invokevirtual 232, 3), (25, .ifCond .eq 41, 3), (28, .aload_n 0, 1), (29, .getfield 191, 3), (32, .bipush 43, 2), (34, .if_icmp .ne 7, 3), (37, .iconst 2, 1), (38, .goto 4, 3), (41, .iconst 3, 1), (42, .istore_n 1, 1), (43, .aload_n 0, 1), (44, .invokevirtual 225, 3), (47, .aload_n 0, 1), (48, .invokevirtual 235, 3), (51, .iconst (-1), 1), (52, .if_icmp .ne 5, 3), (55, .iconst (-1), 1), (56, .ireturn, 1), (57, .aload_n 0, 1), (58, .iload_n 1, 1), (59, .iconst 0, 1), (60, .invokevirtual 221, 3), (63, .goto (-53), 3), (66, .iconst 0, 1), (67, .ireturn, 1)]
theorem dt_X12_readSum : wg_dc cX12_readSum tb_X12_readSum := by unfold wg_dc; decide +kernel
def f_X12_readSum_42 (k10 : Nat → wg_M → Option (Int32 × wg_M)) (x0 : Nat) (t0 : Int32) (σ : wg_M) : Option (Int32 × wg_M) := wg_bd (f_X12_reads x0 σ) (fun _ s1 => wg_bd (f_X12_readProduct x0 s1) (fun v2 s3 => if v2 = (-1 : Int32) then (some ((-1 : Int32), s3)) else (wg_bd (f_X12_emits x0 t0 (0 : Int32) s3) (fun _ s4 => k10 x0 s4))))
def f_X12_readSum_28 (k10 : Nat → wg_M → Option (Int32 × wg_M)) (x0 : Nat) (σ : wg_M) : Option (Int32 × wg_M) := if (σ x0 19) = (43 : Int32) then (f_X12_readSum_42 k10 x0 (2 : Int32) σ) else (f_X12_readSum_42 k10 x0 (3 : Int32) σ)
def f_X12_readSum_10  : Nat → Nat → wg_M → Option (Int32 × wg_M)
  | 0, _, _ => none
  | n + 1, x0, σ => wg_bd (f_X12_isSign x0 (43 : Int32) σ) (fun v1 s2 => if v1 = 0 then (wg_bd (f_X12_isSign x0 (45 : Int32) s2) (fun v3 s4 => if v3 = 0 then (some ((0 : Int32), s4)) else (f_X12_readSum_28 (f_X12_readSum_10  n) x0 s4))) else (f_X12_readSum_28 (f_X12_readSum_10  n) x0 s2))
def f_X12_readSum  (x0 : Nat) (σ : wg_M) : Option (Int32 × wg_M) := wg_bd (f_X12_readProduct x0 σ) (fun v1 s2 => if v1 = (-1 : Int32) then (some ((-1 : Int32), s2)) else (f_X12_readSum_10  wg_N x0 s2))
set_option maxRecDepth 20000 in
theorem g_X12_readSum_42 (l : Launch) (E : wg_E) (k10 : Nat → wg_M → Option (Int32 × wg_M)) (x0 : Nat) (t0 : Int32) (σ : wg_M) (z : Int32 × wg_M) (hx0 : wg_t Sm x0 = 14) (hk10 : ∀ (x0 : Nat) (σ : wg_M), wg_t Sm x0 = 14 → k10 x0 σ = some z → wg_G l E Sm "WornWigsModel" cX12_readSum 2 (some .int) rm_X12_readSum (some z.1) z.2 10 [some (.ref x0), none] [] σ) (h : f_X12_readSum_42 k10 x0 t0 σ = some z) : wg_G l E Sm "WornWigsModel" cX12_readSum 2 (some .int) rm_X12_readSum (some z.1) z.2 42 [some (.ref x0), none] [.int t0] σ := by
  refine wr_istore_n (wg_da dt_X12_readSum 21 rfl) (by decide) ?_
  refine wr_aload_n (wg_da dt_X12_readSum 22 rfl) rfl ?_
  refine wr_callVv [] [] (wg_da dt_X12_readSum 23 rfl) ⟨wq_7_158, wq_7_160, wq_p4_15⟩ hx0 ⟨rfl, by decide⟩ wy_X12_reads (fun q hq => m_X12_reads l E x0 hx0 _ q hq) rfl rfl (Nat.le_of_ble_eq_true rfl) ⟨rfl, rfl, by decide, by decide⟩ h (fun _ s1 h => ?_)
  refine wr_aload_n (wg_da dt_X12_readSum 24 rfl) rfl ?_
  refine wr_callVi [] [] (wg_da dt_X12_readSum 25 rfl) ⟨wq_8_10, wq_8_12, wq_p6_6⟩ hx0 ⟨rfl, by decide⟩ wy_X12_readProduct (fun q hq => m_X12_readProduct l E x0 hx0 _ q hq) rfl rfl (Nat.le_of_ble_eq_true rfl) ⟨rfl, rfl, by decide, by decide⟩ h (fun v2 s3 h => ?_)
  refine wr_iconst (-1 : Int32) (wg_da dt_X12_readSum 26 rfl) (by decide) ?_
  refine wr_icmp_ne 57 (wg_da dt_X12_readSum 27 rfl) (by decide) h (fun h => ?_) (fun h => ?_)
  · refine wr_iconst (-1 : Int32) (wg_da dt_X12_readSum 28 rfl) (by decide) ?_
    exact wr_iret (wg_da dt_X12_readSum 29 rfl) h
  · refine wr_aload_n (wg_da dt_X12_readSum 30 rfl) rfl ?_
    refine wr_iload_n (wg_da dt_X12_readSum 31 rfl) rfl ?_
    refine wr_iconst (0 : Int32) (wg_da dt_X12_readSum 32 rfl) (by decide) ?_
    refine wr_callVv [.int t0, .int (0 : Int32)] [] (wg_da dt_X12_readSum 33 rfl) ⟨wq_8_22, wq_8_24, wq_p6_9⟩ hx0 ⟨rfl, by decide⟩ wy_X12_emits (fun q hq => m_X12_emits l E x0 t0 (0 : Int32) hx0 _ q hq) rfl rfl (Nat.le_of_ble_eq_true rfl) ⟨rfl, rfl, by decide, by decide⟩ h (fun _ s4 h => ?_)
    refine wr_goto 10 (wg_da dt_X12_readSum 34 rfl) (by decide) ?_
    exact wr_wk [true, false] (hk10 x0 s4 hx0 h)
set_option maxRecDepth 20000 in
theorem g_X12_readSum_28 (l : Launch) (E : wg_E) (k10 : Nat → wg_M → Option (Int32 × wg_M)) (x0 : Nat) (σ : wg_M) (z : Int32 × wg_M) (hx0 : wg_t Sm x0 = 14) (hk10 : ∀ (x0 : Nat) (σ : wg_M), wg_t Sm x0 = 14 → k10 x0 σ = some z → wg_G l E Sm "WornWigsModel" cX12_readSum 2 (some .int) rm_X12_readSum (some z.1) z.2 10 [some (.ref x0), none] [] σ) (h : f_X12_readSum_28 k10 x0 σ = some z) : wg_G l E Sm "WornWigsModel" cX12_readSum 2 (some .int) rm_X12_readSum (some z.1) z.2 28 [some (.ref x0), none] [] σ := by
  refine wr_aload_n (wg_da dt_X12_readSum 14 rfl) rfl ?_
  refine wr_getI wf_X12_191 (wg_da dt_X12_readSum 15 rfl) hx0 ?_
  refine wr_bipush (43 : Int32) (wg_da dt_X12_readSum 16 rfl) (by decide) ?_
  refine wr_icmp_ne 41 (wg_da dt_X12_readSum 17 rfl) (by decide) h (fun h => ?_) (fun h => ?_)
  · refine wr_iconst (2 : Int32) (wg_da dt_X12_readSum 18 rfl) (by decide) ?_
    refine wr_goto 42 (wg_da dt_X12_readSum 19 rfl) (by decide) ?_
    exact wr_wk [true, false] (g_X12_readSum_42 l E k10 x0 (2 : Int32) σ _ hx0 hk10 h)
  · refine wr_iconst (3 : Int32) (wg_da dt_X12_readSum 20 rfl) (by decide) ?_
    exact wr_wk [true, false] (g_X12_readSum_42 l E k10 x0 (3 : Int32) σ _ hx0 hk10 h)
set_option maxRecDepth 20000 in
theorem g_X12_readSum_10 (l : Launch) (E : wg_E)  (z : Int32 × wg_M) : ∀ (n : Nat) (x0 : Nat) (σ : wg_M) (hx0 : wg_t Sm x0 = 14) (h : f_X12_readSum_10  n x0 σ = some z), wg_G l E Sm "WornWigsModel" cX12_readSum 2 (some .int) rm_X12_readSum (some z.1) z.2 10 [some (.ref x0), none] [] σ := by
  intro n
  induction n with
  | zero => intro x0 σ hx0 h; cases h
  | succ n ih =>
    intro x0 σ hx0 h
    refine wr_aload_n (wg_da dt_X12_readSum 6 rfl) rfl ?_
    refine wr_bipush (43 : Int32) (wg_da dt_X12_readSum 7 rfl) (by decide) ?_
    refine wr_callVi [.int (43 : Int32)] [] (wg_da dt_X12_readSum 8 rfl) ⟨wq_7_210, wq_7_212, wq_p5_12⟩ hx0 ⟨rfl, by decide⟩ wy_X12_isSign (fun q hq => m_X12_isSign l E x0 (43 : Int32) hx0 _ q hq) rfl rfl (Nat.le_of_ble_eq_true rfl) ⟨rfl, rfl, by decide, by decide⟩ h (fun v1 s2 h => ?_)
    refine wr_if_ne 28 (wg_da dt_X12_readSum 9 rfl) (by decide) h (fun h => ?_) (fun h => ?_)
    · refine wr_aload_n (wg_da dt_X12_readSum 10 rfl) rfl ?_
      refine wr_bipush (45 : Int32) (wg_da dt_X12_readSum 11 rfl) (by decide) ?_
      refine wr_callVi [.int (45 : Int32)] [] (wg_da dt_X12_readSum 12 rfl) ⟨wq_7_210, wq_7_212, wq_p5_12⟩ hx0 ⟨rfl, by decide⟩ wy_X12_isSign (fun q hq => m_X12_isSign l E x0 (45 : Int32) hx0 _ q hq) rfl rfl (Nat.le_of_ble_eq_true rfl) ⟨rfl, rfl, by decide, by decide⟩ h (fun v3 s4 h => ?_)
      refine wr_if_eq 66 (wg_da dt_X12_readSum 13 rfl) (by decide) h (fun h => ?_) (fun h => ?_)
      · refine wr_iconst (0 : Int32) (wg_da dt_X12_readSum 35 rfl) (by decide) ?_
        exact wr_iret (wg_da dt_X12_readSum 36 rfl) h
      · exact wr_wk [true, false] (g_X12_readSum_28 l E (f_X12_readSum_10  n) x0 s4 _ hx0 (fun x0 σ hx0 h => ih x0 σ hx0 h) h)
    · exact wr_wk [true, false] (g_X12_readSum_28 l E (f_X12_readSum_10  n) x0 s2 _ hx0 (fun x0 σ hx0 h => ih x0 σ hx0 h) h)
set_option maxRecDepth 20000 in
theorem g_X12_readSum_e (l : Launch) (E : wg_E)  (x0 : Nat) (σ : wg_M) (z : Int32 × wg_M) (hx0 : wg_t Sm x0 = 14) (h : f_X12_readSum  x0 σ = some z) : wg_G l E Sm "WornWigsModel" cX12_readSum 2 (some .int) rm_X12_readSum (some z.1) z.2 0 [some (.ref x0), none] [] σ := by
  refine wr_aload_n (wg_da dt_X12_readSum 0 rfl) rfl ?_
  refine wr_callVi [] [] (wg_da dt_X12_readSum 1 rfl) ⟨wq_8_10, wq_8_12, wq_p6_6⟩ hx0 ⟨rfl, by decide⟩ wy_X12_readProduct (fun q hq => m_X12_readProduct l E x0 hx0 _ q hq) rfl rfl (Nat.le_of_ble_eq_true rfl) ⟨rfl, rfl, by decide, by decide⟩ h (fun v1 s2 h => ?_)
  refine wr_iconst (-1 : Int32) (wg_da dt_X12_readSum 2 rfl) (by decide) ?_
  refine wr_icmp_ne 10 (wg_da dt_X12_readSum 3 rfl) (by decide) h (fun h => ?_) (fun h => ?_)
  · refine wr_iconst (-1 : Int32) (wg_da dt_X12_readSum 4 rfl) (by decide) ?_
    exact wr_iret (wg_da dt_X12_readSum 5 rfl) h
  · exact wr_wk [true, false] (g_X12_readSum_10 l E  _  wg_N x0 s2 hx0 h)
theorem m_X12_readSum (l : Launch) (E : wg_E) (x0 : Nat) (hx0 : wg_t Sm x0 = 14) (σ : wg_M) (q : Int32 × wg_M) (h : f_X12_readSum x0 σ = some q) : wg_MG l E Sm yX12_readSum cX12_readSum 2 (some .int) rm_X12_readSum [.ref x0] σ (some q.1) q.2 :=
  wg_met [.ref x0] (plainFor_of_name (by decide)) (Nat.le_of_ble_eq_true rfl) (g_X12_readSum_e l E x0 σ q hx0 h)
abbrev rm_X12_readCompared : Room := { frames := 6, cells := 0, slots := 0, locals := 128 }
def tb_X12_readCompared : List (Nat × Instr × Nat) := [(0, .aload_n 0, 1), (1, .invokevirtual 238, 3), (4, .iconst (-1), 1), (5, .if_icmp .ne 5, 3), (8, .iconst (-1), 1), (9, .ireturn, 1), (10, .aload_n 0, 1), (11, .bipush 60, 2), (13, .invokevirtual 232, 3), (16, .ifCond .ne 27, 3), (19, .aload_n 0, 1), (20, .bipush 61, 2), (22, .invokevirtual 232, 3), (25, .ifCond .ne 18, 3), (28, .aload_n 0, 1), (29, .bipush 62, 2), (31, .invokevirtual 232, 3), (34, .ifCond .ne 9, 3), (37, .aload_n 0, 1), (38, .iconst 1, 1), (39, .invokevirtual 218, 3), (42, .ireturn, 1), (43, .aload_n 0, 1), (44, .getfield 191, 3), (47, .bipush 60, 2), (49, .if_icmp .ne 8, 3), (52, .bipush 6, 2), (54, .goto 19, 3), (57, .aload_n 0, 1), (58, .getfield 191, 3), (61, .bipush 61, 2), (63, .if_icmp .ne 8, 3), (66, .bipush 7, 2), (68, .goto 5, 3), (71, .bipush 8, 2), (73, .istore_n 1, 1), (74, .aload_n 0, 1), (75, .invokevirtual 225, 3), (78, .aload_n 0, 1), (79, .invokevirtual 238, 3), (82, .iconst (-1), 1), (83, .if_icmp .ne 5, 3), (86, .iconst (-1), 1), (87, .ireturn, 1), (88, .aload_n 0, 1), (89, .iload_n 1, 1), (90, .iconst 0, 1), (91, .invokevirtual 221, 3), (94, .iconst 0, 1), (95, .ireturn, 1)]
theorem dt_X12_readCompared : wg_dc cX12_readCompared tb_X12_readCompared := by unfold wg_dc; decide +kernel
def f_X12_readCompared_73  (x0 : Nat) (t0 : Int32) (σ : wg_M) : Option (Int32 × wg_M) := wg_bd (f_X12_reads x0 σ) (fun _ s1 => wg_bd (f_X12_readSum x0 s1) (fun v2 s3 => if v2 = (-1 : Int32) then (some ((-1 : Int32), s3)) else (wg_bd (f_X12_emits x0 t0 (0 : Int32) s3) (fun _ s4 => some ((0 : Int32), s4)))))
def f_X12_readCompared_43  (x0 : Nat) (σ : wg_M) : Option (Int32 × wg_M) := if (σ x0 19) = (60 : Int32) then (f_X12_readCompared_73  x0 (6 : Int32) σ) else (if (σ x0 19) = (61 : Int32) then (f_X12_readCompared_73  x0 (7 : Int32) σ) else (f_X12_readCompared_73  x0 (8 : Int32) σ))
def f_X12_readCompared  (x0 : Nat) (σ : wg_M) : Option (Int32 × wg_M) := wg_bd (f_X12_readSum x0 σ) (fun v1 s2 => if v1 = (-1 : Int32) then (some ((-1 : Int32), s2)) else (wg_bd (f_X12_isSign x0 (60 : Int32) s2) (fun v3 s4 => if v3 = 0 then (wg_bd (f_X12_isSign x0 (61 : Int32) s4) (fun v5 s6 => if v5 = 0 then (wg_bd (f_X12_isSign x0 (62 : Int32) s6) (fun v7 s8 => if v7 = 0 then (wg_bd (f_X12_errs x0 (1 : Int32) s8) (fun v9 s10 => some (v9, s10))) else (f_X12_readCompared_43  x0 s8))) else (f_X12_readCompared_43  x0 s6))) else (f_X12_readCompared_43  x0 s4))))
set_option maxRecDepth 20000 in
theorem g_X12_readCompared_73 (l : Launch) (E : wg_E)  (x0 : Nat) (t0 : Int32) (σ : wg_M) (z : Int32 × wg_M) (hx0 : wg_t Sm x0 = 14) (h : f_X12_readCompared_73  x0 t0 σ = some z) : wg_G l E Sm "WornWigsModel" cX12_readCompared 2 (some .int) rm_X12_readCompared (some z.1) z.2 73 [some (.ref x0), none] [.int t0] σ := by
  refine wr_istore_n (wg_da dt_X12_readCompared 35 rfl) (by decide) ?_
  refine wr_aload_n (wg_da dt_X12_readCompared 36 rfl) rfl ?_
  refine wr_callVv [] [] (wg_da dt_X12_readCompared 37 rfl) ⟨wq_7_158, wq_7_160, wq_p4_15⟩ hx0 ⟨rfl, by decide⟩ wy_X12_reads (fun q hq => m_X12_reads l E x0 hx0 _ q hq) rfl rfl (Nat.le_of_ble_eq_true rfl) ⟨rfl, rfl, by decide, by decide⟩ h (fun _ s1 h => ?_)
  refine wr_aload_n (wg_da dt_X12_readCompared 38 rfl) rfl ?_
  refine wr_callVi [] [] (wg_da dt_X12_readCompared 39 rfl) ⟨wq_8_6, wq_8_8, wq_p6_5⟩ hx0 ⟨rfl, by decide⟩ wy_X12_readSum (fun q hq => m_X12_readSum l E x0 hx0 _ q hq) rfl rfl (Nat.le_of_ble_eq_true rfl) ⟨rfl, rfl, by decide, by decide⟩ h (fun v2 s3 h => ?_)
  refine wr_iconst (-1 : Int32) (wg_da dt_X12_readCompared 40 rfl) (by decide) ?_
  refine wr_icmp_ne 88 (wg_da dt_X12_readCompared 41 rfl) (by decide) h (fun h => ?_) (fun h => ?_)
  · refine wr_iconst (-1 : Int32) (wg_da dt_X12_readCompared 42 rfl) (by decide) ?_
    exact wr_iret (wg_da dt_X12_readCompared 43 rfl) h
  · refine wr_aload_n (wg_da dt_X12_readCompared 44 rfl) rfl ?_
    refine wr_iload_n (wg_da dt_X12_readCompared 45 rfl) rfl ?_
    refine wr_iconst (0 : Int32) (wg_da dt_X12_readCompared 46 rfl) (by decide) ?_
    refine wr_callVv [.int t0, .int (0 : Int32)] [] (wg_da dt_X12_readCompared 47 rfl) ⟨wq_8_22, wq_8_24, wq_p6_9⟩ hx0 ⟨rfl, by decide⟩ wy_X12_emits (fun q hq => m_X12_emits l E x0 t0 (0 : Int32) hx0 _ q hq) rfl rfl (Nat.le_of_ble_eq_true rfl) ⟨rfl, rfl, by decide, by decide⟩ h (fun _ s4 h => ?_)
    refine wr_iconst (0 : Int32) (wg_da dt_X12_readCompared 48 rfl) (by decide) ?_
    exact wr_iret (wg_da dt_X12_readCompared 49 rfl) h
set_option maxRecDepth 20000 in
theorem g_X12_readCompared_43 (l : Launch) (E : wg_E)  (x0 : Nat) (σ : wg_M) (z : Int32 × wg_M) (hx0 : wg_t Sm x0 = 14) (h : f_X12_readCompared_43  x0 σ = some z) : wg_G l E Sm "WornWigsModel" cX12_readCompared 2 (some .int) rm_X12_readCompared (some z.1) z.2 43 [some (.ref x0), none] [] σ := by
  refine wr_aload_n (wg_da dt_X12_readCompared 22 rfl) rfl ?_
  refine wr_getI wf_X12_191 (wg_da dt_X12_readCompared 23 rfl) hx0 ?_
  refine wr_bipush (60 : Int32) (wg_da dt_X12_readCompared 24 rfl) (by decide) ?_
  refine wr_icmp_ne 57 (wg_da dt_X12_readCompared 25 rfl) (by decide) h (fun h => ?_) (fun h => ?_)
  · refine wr_bipush (6 : Int32) (wg_da dt_X12_readCompared 26 rfl) (by decide) ?_
    refine wr_goto 73 (wg_da dt_X12_readCompared 27 rfl) (by decide) ?_
    exact wr_wk [true, false] (g_X12_readCompared_73 l E  x0 (6 : Int32) σ _ hx0  h)
  · refine wr_aload_n (wg_da dt_X12_readCompared 28 rfl) rfl ?_
    refine wr_getI wf_X12_191 (wg_da dt_X12_readCompared 29 rfl) hx0 ?_
    refine wr_bipush (61 : Int32) (wg_da dt_X12_readCompared 30 rfl) (by decide) ?_
    refine wr_icmp_ne 71 (wg_da dt_X12_readCompared 31 rfl) (by decide) h (fun h => ?_) (fun h => ?_)
    · refine wr_bipush (7 : Int32) (wg_da dt_X12_readCompared 32 rfl) (by decide) ?_
      refine wr_goto 73 (wg_da dt_X12_readCompared 33 rfl) (by decide) ?_
      exact wr_wk [true, false] (g_X12_readCompared_73 l E  x0 (7 : Int32) σ _ hx0  h)
    · refine wr_bipush (8 : Int32) (wg_da dt_X12_readCompared 34 rfl) (by decide) ?_
      exact wr_wk [true, false] (g_X12_readCompared_73 l E  x0 (8 : Int32) σ _ hx0  h)
set_option maxRecDepth 20000 in
theorem g_X12_readCompared_e (l : Launch) (E : wg_E)  (x0 : Nat) (σ : wg_M) (z : Int32 × wg_M) (hx0 : wg_t Sm x0 = 14) (h : f_X12_readCompared  x0 σ = some z) : wg_G l E Sm "WornWigsModel" cX12_readCompared 2 (some .int) rm_X12_readCompared (some z.1) z.2 0 [some (.ref x0), none] [] σ := by
  refine wr_aload_n (wg_da dt_X12_readCompared 0 rfl) rfl ?_
  refine wr_callVi [] [] (wg_da dt_X12_readCompared 1 rfl) ⟨wq_8_6, wq_8_8, wq_p6_5⟩ hx0 ⟨rfl, by decide⟩ wy_X12_readSum (fun q hq => m_X12_readSum l E x0 hx0 _ q hq) rfl rfl (Nat.le_of_ble_eq_true rfl) ⟨rfl, rfl, by decide, by decide⟩ h (fun v1 s2 h => ?_)
  refine wr_iconst (-1 : Int32) (wg_da dt_X12_readCompared 2 rfl) (by decide) ?_
  refine wr_icmp_ne 10 (wg_da dt_X12_readCompared 3 rfl) (by decide) h (fun h => ?_) (fun h => ?_)
  · refine wr_iconst (-1 : Int32) (wg_da dt_X12_readCompared 4 rfl) (by decide) ?_
    exact wr_iret (wg_da dt_X12_readCompared 5 rfl) h
  · refine wr_aload_n (wg_da dt_X12_readCompared 6 rfl) rfl ?_
    refine wr_bipush (60 : Int32) (wg_da dt_X12_readCompared 7 rfl) (by decide) ?_
    refine wr_callVi [.int (60 : Int32)] [] (wg_da dt_X12_readCompared 8 rfl) ⟨wq_7_210, wq_7_212, wq_p5_12⟩ hx0 ⟨rfl, by decide⟩ wy_X12_isSign (fun q hq => m_X12_isSign l E x0 (60 : Int32) hx0 _ q hq) rfl rfl (Nat.le_of_ble_eq_true rfl) ⟨rfl, rfl, by decide, by decide⟩ h (fun v3 s4 h => ?_)
    refine wr_if_ne 43 (wg_da dt_X12_readCompared 9 rfl) (by decide) h (fun h => ?_) (fun h => ?_)
    · refine wr_aload_n (wg_da dt_X12_readCompared 10 rfl) rfl ?_
      refine wr_bipush (61 : Int32) (wg_da dt_X12_readCompared 11 rfl) (by decide) ?_
      refine wr_callVi [.int (61 : Int32)] [] (wg_da dt_X12_readCompared 12 rfl) ⟨wq_7_210, wq_7_212, wq_p5_12⟩ hx0 ⟨rfl, by decide⟩ wy_X12_isSign (fun q hq => m_X12_isSign l E x0 (61 : Int32) hx0 _ q hq) rfl rfl (Nat.le_of_ble_eq_true rfl) ⟨rfl, rfl, by decide, by decide⟩ h (fun v5 s6 h => ?_)
      refine wr_if_ne 43 (wg_da dt_X12_readCompared 13 rfl) (by decide) h (fun h => ?_) (fun h => ?_)
      · refine wr_aload_n (wg_da dt_X12_readCompared 14 rfl) rfl ?_
        refine wr_bipush (62 : Int32) (wg_da dt_X12_readCompared 15 rfl) (by decide) ?_
        refine wr_callVi [.int (62 : Int32)] [] (wg_da dt_X12_readCompared 16 rfl) ⟨wq_7_210, wq_7_212, wq_p5_12⟩ hx0 ⟨rfl, by decide⟩ wy_X12_isSign (fun q hq => m_X12_isSign l E x0 (62 : Int32) hx0 _ q hq) rfl rfl (Nat.le_of_ble_eq_true rfl) ⟨rfl, rfl, by decide, by decide⟩ h (fun v7 s8 h => ?_)
        refine wr_if_ne 43 (wg_da dt_X12_readCompared 17 rfl) (by decide) h (fun h => ?_) (fun h => ?_)
        · refine wr_aload_n (wg_da dt_X12_readCompared 18 rfl) rfl ?_
          refine wr_iconst (1 : Int32) (wg_da dt_X12_readCompared 19 rfl) (by decide) ?_
          refine wr_callVi [.int (1 : Int32)] [] (wg_da dt_X12_readCompared 20 rfl) ⟨wq_7_190, wq_7_192, wq_p5_7⟩ hx0 ⟨rfl, by decide⟩ wy_X12_errs (fun q hq => m_X12_errs l E x0 (1 : Int32) hx0 _ q hq) rfl rfl (Nat.le_of_ble_eq_true rfl) ⟨rfl, rfl, by decide, by decide⟩ h (fun v9 s10 h => ?_)
          exact wr_iret (wg_da dt_X12_readCompared 21 rfl) h
        · exact wr_wk [true, false] (g_X12_readCompared_43 l E  x0 s8 _ hx0  h)
      · exact wr_wk [true, false] (g_X12_readCompared_43 l E  x0 s6 _ hx0  h)
    · exact wr_wk [true, false] (g_X12_readCompared_43 l E  x0 s4 _ hx0  h)
theorem m_X12_readCompared (l : Launch) (E : wg_E) (x0 : Nat) (hx0 : wg_t Sm x0 = 14) (σ : wg_M) (q : Int32 × wg_M) (h : f_X12_readCompared x0 σ = some q) : wg_MG l E Sm yX12_readCompared cX12_readCompared 2 (some .int) rm_X12_readCompared [.ref x0] σ (some q.1) q.2 :=
  wg_met [.ref x0] (plainFor_of_name (by decide)) (Nat.le_of_ble_eq_true rfl) (g_X12_readCompared_e l E x0 σ q hx0 h)
abbrev rm_X12_waits : Room := { frames := 0, cells := 0, slots := 0, locals := 0 }
def tb_X12_waits : List (Nat × Instr × Nat) := [(0, .aload_n 0, 1), (1, .getfield 61, 3), (4, .aload_n 0, 1), (5, .getfield 241, 3), (8, .iload_n 1, 1), (9, .iastore, 1), (10, .aload_n 0, 1), (11, .aload_n 0, 1), (12, .getfield 241, 3), (15, .iconst 1, 1), (16, .iadd, 1), (17, .putfield 241, 3), (20, .return_, 1)]
theorem dt_X12_waits : wg_dc cX12_waits tb_X12_waits := by unfold wg_dc; decide +kernel
def f_X12_waits  (x0 : Nat) (x1 : Int32) (σ : wg_M) : Option (Int32 × wg_M) := wg_sa (wg_n Sm (wg_r Sm x0 31)) σ (wg_r Sm x0 31) (σ x0 32) x1 (fun s1 => wg_st s1 x0 32 ((s1 x0 32) + (1 : Int32)) (fun s2 => some (0, s2)))
set_option maxRecDepth 20000 in
theorem g_X12_waits_e (l : Launch) (E : wg_E)  (x0 : Nat) (x1 : Int32) (σ : wg_M) (z : Int32 × wg_M) (hx0 : wg_t Sm x0 = 14) (h : f_X12_waits  x0 x1 σ = some z) : wg_G l E Sm "WornWigsModel" cX12_waits 2 none rm_X12_waits none z.2 0 [some (.ref x0), some (.int x1)] [] σ := by
  refine wr_aload_n (wg_da dt_X12_waits 0 rfl) rfl ?_
  refine wr_getR wf_X12_61 (wg_da dt_X12_waits 1 rfl) hx0 ?_
  refine wr_aload_n (wg_da dt_X12_waits 2 rfl) rfl ?_
  refine wr_getI wf_X12_241 (wg_da dt_X12_waits 3 rfl) hx0 ?_
  refine wr_iload_n (wg_da dt_X12_waits 4 rfl) rfl ?_
  refine wr_iast (wg_da dt_X12_waits 5 rfl) (wg_ty Sm_ok 12 31 0 hx0 rfl (by decide)).2 h (fun s1 h => ?_)
  refine wr_aload_n (wg_da dt_X12_waits 6 rfl) rfl ?_
  refine wr_aload_n (wg_da dt_X12_waits 7 rfl) rfl ?_
  refine wr_getI wf_X12_241 (wg_da dt_X12_waits 8 rfl) hx0 ?_
  refine wr_iconst (1 : Int32) (wg_da dt_X12_waits 9 rfl) (by decide) ?_
  refine wr_iadd (wg_da dt_X12_waits 10 rfl) ?_
  refine wr_putI wfp_X12_241 (wg_da dt_X12_waits 11 rfl) hx0 h (fun s2 h => ?_)
  exact wr_vret (wg_da dt_X12_waits 12 rfl) h
theorem m_X12_waits (l : Launch) (E : wg_E) (x0 : Nat) (x1 : Int32) (hx0 : wg_t Sm x0 = 14) (σ : wg_M) (q : Int32 × wg_M) (h : f_X12_waits x0 x1 σ = some q) : wg_MG l E Sm yX12_waits cX12_waits 2 none rm_X12_waits [.ref x0, .int x1] σ none q.2 :=
  wg_met [.ref x0, .int x1] (plainFor_of_name (by decide)) (Nat.le_of_ble_eq_true rfl) (g_X12_waits_e l E x0 x1 σ q hx0 h)
abbrev rm_X12_settles : Room := { frames := 1, cells := 0, slots := 0, locals := 22 }
def tb_X12_settles : List (Nat × Instr × Nat) := [(0, .aload_n 0, 1), (1, .getfield 241, 3), (4, .ifCond .le 53, 3), (7, .aload_n 0, 1), (8, .getfield 61, 3), (11, .aload_n 0, 1), (12, .getfield 241, 3), (15, .iconst 1, 1), (16, .isub, 1), (17, .iaload, 1), (18, .iload_n 1, 1), (19, .if_icmp .ne 38, 3), (22, .aload_n 0, 1), (23, .aload_n 0, 1), (24, .getfield 241, 3), (27, .iconst 1, 1), (28, .isub, 1), (29, .putfield 241, 3), (32, .aload_n 0, 1), (33, .iload_n 1, 1), (34, .iconst 0, 1), (35, .invokevirtual 221, 3), (38, .iload_n 1, 1), (39, .bipush 9, 2), (41, .if_icmp .ne (-41), 3), (44, .aload_n 0, 1), (45, .aload_n 0, 1), (46, .getfield 244, 3), (49, .iconst 1, 1), (50, .isub, 1), (51, .putfield 244, 3), (54, .goto (-54), 3), (57, .return_, 1)]
theorem dt_X12_settles : wg_dc cX12_settles tb_X12_settles := by unfold wg_dc; decide +kernel
def f_X12_settles_0  : Nat → Nat → Int32 → wg_M → Option (Int32 × wg_M)
  | 0, _, _, _ => none
  | n + 1, x0, x1, σ => if (σ x0 32) ≤ 0 then (some (0, σ)) else (wg_ga (wg_n Sm (wg_r Sm x0 31)) (σ (wg_r Sm x0 31)) ((σ x0 32) - (1 : Int32)) (fun v1 => if v1 = x1 then (wg_st σ x0 32 ((σ x0 32) - (1 : Int32)) (fun s2 => wg_bd (f_X12_emits x0 x1 (0 : Int32) s2) (fun _ s3 => if x1 = (9 : Int32) then (wg_st s3 x0 30 ((s3 x0 30) - (1 : Int32)) (fun s4 => f_X12_settles_0  n x0 x1 s4)) else (f_X12_settles_0  n x0 x1 s3)))) else (some (0, σ))))
def f_X12_settles  (x0 : Nat) (x1 : Int32) (σ : wg_M) : Option (Int32 × wg_M) := f_X12_settles_0  wg_N x0 x1 σ
set_option maxRecDepth 20000 in
theorem g_X12_settles_0 (l : Launch) (E : wg_E)  (z : Int32 × wg_M) : ∀ (n : Nat) (x0 : Nat) (x1 : Int32) (σ : wg_M) (hx0 : wg_t Sm x0 = 14) (h : f_X12_settles_0  n x0 x1 σ = some z), wg_G l E Sm "WornWigsModel" cX12_settles 2 none rm_X12_settles none z.2 0 [some (.ref x0), some (.int x1)] [] σ := by
  intro n
  induction n with
  | zero => intro x0 x1 σ hx0 h; cases h
  | succ n ih =>
    intro x0 x1 σ hx0 h
    refine wr_aload_n (wg_da dt_X12_settles 0 rfl) rfl ?_
    refine wr_getI wf_X12_241 (wg_da dt_X12_settles 1 rfl) hx0 ?_
    refine wr_if_le 57 (wg_da dt_X12_settles 2 rfl) (by decide) h (fun h => ?_) (fun h => ?_)
    · exact wr_vret (wg_da dt_X12_settles 32 rfl) h
    · refine wr_aload_n (wg_da dt_X12_settles 3 rfl) rfl ?_
      refine wr_getR wf_X12_61 (wg_da dt_X12_settles 4 rfl) hx0 ?_
      refine wr_aload_n (wg_da dt_X12_settles 5 rfl) rfl ?_
      refine wr_getI wf_X12_241 (wg_da dt_X12_settles 6 rfl) hx0 ?_
      refine wr_iconst (1 : Int32) (wg_da dt_X12_settles 7 rfl) (by decide) ?_
      refine wr_isub (wg_da dt_X12_settles 8 rfl) ?_
      refine wr_iald (wg_da dt_X12_settles 9 rfl) (wg_ty Sm_ok 12 31 0 hx0 rfl (by decide)).2 h (fun v1 h => ?_)
      refine wr_iload_n (wg_da dt_X12_settles 10 rfl) rfl ?_
      refine wr_icmp_ne 57 (wg_da dt_X12_settles 11 rfl) (by decide) h (fun h => ?_) (fun h => ?_)
      · refine wr_aload_n (wg_da dt_X12_settles 12 rfl) rfl ?_
        refine wr_aload_n (wg_da dt_X12_settles 13 rfl) rfl ?_
        refine wr_getI wf_X12_241 (wg_da dt_X12_settles 14 rfl) hx0 ?_
        refine wr_iconst (1 : Int32) (wg_da dt_X12_settles 15 rfl) (by decide) ?_
        refine wr_isub (wg_da dt_X12_settles 16 rfl) ?_
        refine wr_putI wfp_X12_241 (wg_da dt_X12_settles 17 rfl) hx0 h (fun s2 h => ?_)
        refine wr_aload_n (wg_da dt_X12_settles 18 rfl) rfl ?_
        refine wr_iload_n (wg_da dt_X12_settles 19 rfl) rfl ?_
        refine wr_iconst (0 : Int32) (wg_da dt_X12_settles 20 rfl) (by decide) ?_
        refine wr_callVv [.int x1, .int (0 : Int32)] [] (wg_da dt_X12_settles 21 rfl) ⟨wq_8_22, wq_8_24, wq_p6_9⟩ hx0 ⟨rfl, by decide⟩ wy_X12_emits (fun q hq => m_X12_emits l E x0 x1 (0 : Int32) hx0 _ q hq) rfl rfl (Nat.le_of_ble_eq_true rfl) ⟨rfl, rfl, by decide, by decide⟩ h (fun _ s3 h => ?_)
        refine wr_iload_n (wg_da dt_X12_settles 22 rfl) rfl ?_
        refine wr_bipush (9 : Int32) (wg_da dt_X12_settles 23 rfl) (by decide) ?_
        refine wr_icmp_ne 0 (wg_da dt_X12_settles 24 rfl) (by decide) h (fun h => ?_) (fun h => ?_)
        · refine wr_aload_n (wg_da dt_X12_settles 25 rfl) rfl ?_
          refine wr_aload_n (wg_da dt_X12_settles 26 rfl) rfl ?_
          refine wr_getI wf_X12_244 (wg_da dt_X12_settles 27 rfl) hx0 ?_
          refine wr_iconst (1 : Int32) (wg_da dt_X12_settles 28 rfl) (by decide) ?_
          refine wr_isub (wg_da dt_X12_settles 29 rfl) ?_
          refine wr_putI wfp_X12_244 (wg_da dt_X12_settles 30 rfl) hx0 h (fun s4 h => ?_)
          refine wr_goto 0 (wg_da dt_X12_settles 31 rfl) (by decide) ?_
          exact wr_wk [true, true] (ih x0 x1 s4 hx0 h)
        · exact wr_wk [true, true] (ih x0 x1 s3 hx0 h)
      · exact wr_vret (wg_da dt_X12_settles 32 rfl) h
set_option maxRecDepth 20000 in
theorem g_X12_settles_e (l : Launch) (E : wg_E)  (x0 : Nat) (x1 : Int32) (σ : wg_M) (z : Int32 × wg_M) (hx0 : wg_t Sm x0 = 14) (h : f_X12_settles  x0 x1 σ = some z) : wg_G l E Sm "WornWigsModel" cX12_settles 2 none rm_X12_settles none z.2 0 [some (.ref x0), some (.int x1)] [] σ := by
  exact wr_wk [true, true] (g_X12_settles_0 l E  _  wg_N x0 x1 σ hx0 h)
theorem m_X12_settles (l : Launch) (E : wg_E) (x0 : Nat) (x1 : Int32) (hx0 : wg_t Sm x0 = 14) (σ : wg_M) (q : Int32 × wg_M) (h : f_X12_settles x0 x1 σ = some q) : wg_MG l E Sm yX12_settles cX12_settles 2 none rm_X12_settles [.ref x0, .int x1] σ none q.2 :=
  wg_met [.ref x0, .int x1] (plainFor_of_name (by decide)) (Nat.le_of_ble_eq_true rfl) (g_X12_settles_e l E x0 x1 σ q hx0 h)
abbrev rm_X12_readAny : Room := { frames := 7, cells := 0, slots := 0, locals := 149 }
def tb_X12_readAny : List (Nat × Instr × Nat) := [(0, .iconst 0, 1), (1, .istore_n 1, 1), (2, .aload_n 0, 1), (3, .iconst 0, 1), (4, .putfield 241, 3), (7, .iconst 1, 1), (8, .istore_n 2, 1), (9, .iload_n 2, 1), (10, .ifCond .eq 99, 3), (13, .aload_n 0, 1), (14, .bipush 6, 2), (16, .invokevirtual 247, 3), (19, .istore_n 3, 1), (20, .iload_n 3, 1), (21, .ifCond .ne 12, 3), (24, .aload_n 0, 1), (25, .bipush 40, 2), (27, .invokevirtual 232, 3), (30, .ifCond .eq 58, 3), (33, .aload_n 0, 1), (34, .getfield 244, 3), (37, .bipush 8, 2), (39, .if_icmp .ne 9, 3), (42, .aload_n 0, 1), (43, .iconst 3, 1), (44, .invokevirtual 218, 3), (47, .ireturn, 1), (48, .aload_n 0, 1), (49, .aload_n 0, 1), (50, .getfield 244, 3), (53, .iconst 1, 1), (54, .iadd, 1), (55, .putfield 244, 3), (58, .iload_n 3, 1), (59, .ifCond .ne 7, 3), (62, .iload_n 1, 1), (63, .iconst 1, 1), (64, .iadd, 1), (65, .istore_n 1, 1), (66, .aload_n 0, 1), (67, .iload_n 3, 1), (68, .ifCond .eq 8, 3), (71, .bipush 9, 2), (73, .goto 5, 3), (76, .bipush 12, 2), (78, .invokevirtual 250, 3), (81, .aload_n 0, 1), (82, .invokevirtual 225, 3), (85, .goto (-76), 3), (88, .aload_n 0, 1), (89, .invokevirtual 253, 3), (92, .iconst (-1), 1), (93, .if_icmp .ne 5, 3), (96, .iconst (-1), 1), (97, .ireturn, 1), (98, .aload_n 0, 1), (99, .bipush 9, 2), (101, .invokevirtual 256, 3), (104, .iconst 0, 1), (105, .istore_n 2, 1), (106, .goto (-97), 3), (109, .aload_n 0, 1), (110, .iconst 5, 1), (111, .invokevirtual 247, 3), (114, .ifCond .eq 24, 3), (117, .aload_n 0, 1), (118, .bipush 10, 2), (120, .invokevirtual 256, 3), (123, .aload_n 0, 1), (124, .bipush 10, 2), (126, .invokevirtual 250, 3), (129, .aload_n 0, 1), (130, .invokevirtual 225, 3), (133, .iconst 1, 1), (134, .istore_n 2, 1), (135, .goto (-126), 3), (138, .aload_n 0, 1), (139, .iconst 4, 1), (140, .invokevirtual 247, 3), (143, .ifCond .eq 30, 3), (146, .aload_n 0, 1), (147, .bipush 10, 2), (149, .invokevirtual 256, 3), (152, .aload_n 0, 1), (153, .bipush 11, 2), (155, .invokevirtual 256, 3), (158, .aload_n 0, 1), (159, .bipush 11, 2), (161, .invokevirtual 250, 3), (164, .aload_n 0, 1), (165, .invokevirtual 225, 3), (168, .iconst 1, 1), (169, .istore_n 2, 1), (170, .goto (-161), 3), (173, .aload_n 0, 1), (174, .bipush 10, 2), (176, .invokevirtual 256, 3), (179, .aload_n 0, 1), (180, .bipush 11, 2), (182, .invokevirtual 256, 3), (185, .iload_n 1, 1), (186, .ifCond .ne 5, 3), (189, .iconst 0, 1), (190, .ireturn, 1), (191, .aload_n 0, 1), (192, .bipush 41, 2), (194, .invokevirtual 232, 3), (197, .ifCond .ne 9, 3), (200, .aload_n 0, 1), (201, .iconst 1, 1), (202, .invokevirtual 218, 3), (205, .ireturn, 1), (206, .aload_n 0, 1), (207, .aload_n 0, 1), (208, .getfield 241, 3), (211, .iconst 1, 1), (212, .isub, 1), (213, .putfield 241, 3), (216, .iload_n 1, 1), (217, .iconst 1, 1), (218, .isub, 1), (219, .istore_n 1, 1), (220, .aload_n 0, 1), (221, .aload_n 0, 1), (222, .getfield 244, 3), (225, .iconst 1, 1), (226, .isub, 1), (227, .putfield 244, 3), (230, .aload_n 0, 1), (231, .bipush 9, 2), (233, .invokevirtual 256, 3), (236, .aload_n 0, 1), (237, .invokevirtual 225, 3), (240, .goto (-231), 3)]
theorem dt_X12_readAny : wg_dc cX12_readAny tb_X12_readAny := by unfold wg_dc; decide +kernel
def f_X12_readAny_78 (k9 : Nat → Int32 → Int32 → wg_M → Option (Int32 × wg_M)) (x0 : Nat) (x1 : Int32) (x2 : Int32) (t0 : Int32) (t1 : Nat) (σ : wg_M) : Option (Int32 × wg_M) := wg_bd (f_X12_waits t1 t0 σ) (fun _ s1 => wg_bd (f_X12_reads x0 s1) (fun _ s2 => k9 x0 x1 x2 s2))
def f_X12_readAny_66 (k9 : Nat → Int32 → Int32 → wg_M → Option (Int32 × wg_M)) (x0 : Nat) (x1 : Int32) (x2 : Int32) (x3 : Int32) (σ : wg_M) : Option (Int32 × wg_M) := if x3 = 0 then (f_X12_readAny_78 k9 x0 x1 x2 (12 : Int32) x0 σ) else (f_X12_readAny_78 k9 x0 x1 x2 (9 : Int32) x0 σ)
def f_X12_readAny_33 (k9 : Nat → Int32 → Int32 → wg_M → Option (Int32 × wg_M)) (x0 : Nat) (x1 : Int32) (x2 : Int32) (x3 : Int32) (σ : wg_M) : Option (Int32 × wg_M) := if (σ x0 30) = (8 : Int32) then (wg_bd (f_X12_errs x0 (3 : Int32) σ) (fun v3 s4 => some (v3, s4))) else (wg_st σ x0 30 ((σ x0 30) + (1 : Int32)) (fun s1 => if x3 = 0 then (wg_let (x1 + (1 : Int32)) (fun v2 => f_X12_readAny_66 k9 x0 v2 x2 x3 s1)) else (f_X12_readAny_66 k9 x0 x1 x2 x3 s1)))
def f_X12_readAny_9  : Nat → Nat → Int32 → Int32 → wg_M → Option (Int32 × wg_M)
  | 0, _, _, _, _ => none
  | n + 1, x0, x1, x2, σ => if x2 = 0 then (wg_bd (f_X12_isWord x0 (5 : Int32) σ) (fun v1 s2 => if v1 = 0 then (wg_bd (f_X12_isWord x0 (4 : Int32) s2) (fun v3 s4 => if v3 = 0 then (wg_bd (f_X12_settles x0 (10 : Int32) s4) (fun _ s5 => wg_bd (f_X12_settles x0 (11 : Int32) s5) (fun _ s6 => if x1 = 0 then (some ((0 : Int32), s6)) else (wg_bd (f_X12_isSign x0 (41 : Int32) s6) (fun v7 s8 => if v7 = 0 then (wg_bd (f_X12_errs x0 (1 : Int32) s8) (fun v14 s15 => some (v14, s15))) else (wg_st s8 x0 32 ((s8 x0 32) - (1 : Int32)) (fun s9 => wg_let (x1 - (1 : Int32)) (fun v10 => wg_st s9 x0 30 ((s9 x0 30) - (1 : Int32)) (fun s11 => wg_bd (f_X12_settles x0 (9 : Int32) s11) (fun _ s12 => wg_bd (f_X12_reads x0 s12) (fun _ s13 => f_X12_readAny_9  n x0 v10 x2 s13))))))))))) else (wg_bd (f_X12_settles x0 (10 : Int32) s4) (fun _ s16 => wg_bd (f_X12_settles x0 (11 : Int32) s16) (fun _ s17 => wg_bd (f_X12_waits x0 (11 : Int32) s17) (fun _ s18 => wg_bd (f_X12_reads x0 s18) (fun _ s19 => f_X12_readAny_9  n x0 x1 (1 : Int32) s19))))))) else (wg_bd (f_X12_settles x0 (10 : Int32) s2) (fun _ s20 => wg_bd (f_X12_waits x0 (10 : Int32) s20) (fun _ s21 => wg_bd (f_X12_reads x0 s21) (fun _ s22 => f_X12_readAny_9  n x0 x1 (1 : Int32) s22)))))) else (wg_bd (f_X12_isWord x0 (6 : Int32) σ) (fun v23 s24 => if v23 = 0 then (wg_bd (f_X12_isSign x0 (40 : Int32) s24) (fun v25 s26 => if v25 = 0 then (wg_bd (f_X12_readCompared x0 s26) (fun v27 s28 => if v27 = (-1 : Int32) then (some ((-1 : Int32), s28)) else (wg_bd (f_X12_settles x0 (9 : Int32) s28) (fun _ s29 => f_X12_readAny_9  n x0 x1 (0 : Int32) s29)))) else (f_X12_readAny_33 (f_X12_readAny_9  n) x0 x1 x2 v23 s26))) else (f_X12_readAny_33 (f_X12_readAny_9  n) x0 x1 x2 v23 s24)))
def f_X12_readAny  (x0 : Nat) (σ : wg_M) : Option (Int32 × wg_M) := wg_st σ x0 32 (0 : Int32) (fun s1 => f_X12_readAny_9  wg_N x0 (0 : Int32) (1 : Int32) s1)
set_option maxRecDepth 20000 in
theorem g_X12_readAny_78 (l : Launch) (E : wg_E) (k9 : Nat → Int32 → Int32 → wg_M → Option (Int32 × wg_M)) (x0 : Nat) (x1 : Int32) (x2 : Int32) (t0 : Int32) (t1 : Nat) (σ : wg_M) (z : Int32 × wg_M) (hx0 : wg_t Sm x0 = 14) (ht1 : wg_t Sm t1 = 14) (hk9 : ∀ (x0 : Nat) (x1 : Int32) (x2 : Int32) (σ : wg_M), wg_t Sm x0 = 14 → k9 x0 x1 x2 σ = some z → wg_G l E Sm "WornWigsModel" cX12_readAny 4 (some .int) rm_X12_readAny (some z.1) z.2 9 [some (.ref x0), some (.int x1), some (.int x2), none] [] σ) (h : f_X12_readAny_78 k9 x0 x1 x2 t0 t1 σ = some z) : wg_G l E Sm "WornWigsModel" cX12_readAny 4 (some .int) rm_X12_readAny (some z.1) z.2 78 [some (.ref x0), some (.int x1), some (.int x2), none] [.int t0, .ref t1] σ := by
  refine wr_callVv [.int t0] [] (wg_da dt_X12_readAny 45 rfl) ⟨wq_8_30, wq_8_32, wq_p6_11⟩ ht1 ⟨rfl, by decide⟩ wy_X12_waits (fun q hq => m_X12_waits l E t1 t0 ht1 _ q hq) rfl rfl (Nat.le_of_ble_eq_true rfl) ⟨rfl, rfl, by decide, by decide⟩ h (fun _ s1 h => ?_)
  refine wr_aload_n (wg_da dt_X12_readAny 46 rfl) rfl ?_
  refine wr_callVv [] [] (wg_da dt_X12_readAny 47 rfl) ⟨wq_7_158, wq_7_160, wq_p4_15⟩ hx0 ⟨rfl, by decide⟩ wy_X12_reads (fun q hq => m_X12_reads l E x0 hx0 _ q hq) rfl rfl (Nat.le_of_ble_eq_true rfl) ⟨rfl, rfl, by decide, by decide⟩ h (fun _ s2 h => ?_)
  refine wr_goto 9 (wg_da dt_X12_readAny 48 rfl) (by decide) ?_
  exact wr_wk [true, true, true, false] (hk9 x0 x1 x2 s2 hx0 h)
set_option maxRecDepth 20000 in
theorem g_X12_readAny_66 (l : Launch) (E : wg_E) (k9 : Nat → Int32 → Int32 → wg_M → Option (Int32 × wg_M)) (x0 : Nat) (x1 : Int32) (x2 : Int32) (x3 : Int32) (σ : wg_M) (z : Int32 × wg_M) (hx0 : wg_t Sm x0 = 14) (hk9 : ∀ (x0 : Nat) (x1 : Int32) (x2 : Int32) (σ : wg_M), wg_t Sm x0 = 14 → k9 x0 x1 x2 σ = some z → wg_G l E Sm "WornWigsModel" cX12_readAny 4 (some .int) rm_X12_readAny (some z.1) z.2 9 [some (.ref x0), some (.int x1), some (.int x2), none] [] σ) (h : f_X12_readAny_66 k9 x0 x1 x2 x3 σ = some z) : wg_G l E Sm "WornWigsModel" cX12_readAny 4 (some .int) rm_X12_readAny (some z.1) z.2 66 [some (.ref x0), some (.int x1), some (.int x2), some (.int x3)] [] σ := by
  refine wr_aload_n (wg_da dt_X12_readAny 39 rfl) rfl ?_
  refine wr_iload_n (wg_da dt_X12_readAny 40 rfl) rfl ?_
  refine wr_if_eq 76 (wg_da dt_X12_readAny 41 rfl) (by decide) h (fun h => ?_) (fun h => ?_)
  · refine wr_bipush (12 : Int32) (wg_da dt_X12_readAny 44 rfl) (by decide) ?_
    exact wr_wk [true, true, true, false] (g_X12_readAny_78 l E k9 x0 x1 x2 (12 : Int32) x0 σ _ hx0 hx0 hk9 h)
  · refine wr_bipush (9 : Int32) (wg_da dt_X12_readAny 42 rfl) (by decide) ?_
    refine wr_goto 78 (wg_da dt_X12_readAny 43 rfl) (by decide) ?_
    exact wr_wk [true, true, true, false] (g_X12_readAny_78 l E k9 x0 x1 x2 (9 : Int32) x0 σ _ hx0 hx0 hk9 h)
set_option maxRecDepth 20000 in
theorem g_X12_readAny_33 (l : Launch) (E : wg_E) (k9 : Nat → Int32 → Int32 → wg_M → Option (Int32 × wg_M)) (x0 : Nat) (x1 : Int32) (x2 : Int32) (x3 : Int32) (σ : wg_M) (z : Int32 × wg_M) (hx0 : wg_t Sm x0 = 14) (hk9 : ∀ (x0 : Nat) (x1 : Int32) (x2 : Int32) (σ : wg_M), wg_t Sm x0 = 14 → k9 x0 x1 x2 σ = some z → wg_G l E Sm "WornWigsModel" cX12_readAny 4 (some .int) rm_X12_readAny (some z.1) z.2 9 [some (.ref x0), some (.int x1), some (.int x2), none] [] σ) (h : f_X12_readAny_33 k9 x0 x1 x2 x3 σ = some z) : wg_G l E Sm "WornWigsModel" cX12_readAny 4 (some .int) rm_X12_readAny (some z.1) z.2 33 [some (.ref x0), some (.int x1), some (.int x2), some (.int x3)] [] σ := by
  refine wr_aload_n (wg_da dt_X12_readAny 19 rfl) rfl ?_
  refine wr_getI wf_X12_244 (wg_da dt_X12_readAny 20 rfl) hx0 ?_
  refine wr_bipush (8 : Int32) (wg_da dt_X12_readAny 21 rfl) (by decide) ?_
  refine wr_icmp_ne 48 (wg_da dt_X12_readAny 22 rfl) (by decide) h (fun h => ?_) (fun h => ?_)
  · refine wr_aload_n (wg_da dt_X12_readAny 23 rfl) rfl ?_
    refine wr_iconst (3 : Int32) (wg_da dt_X12_readAny 24 rfl) (by decide) ?_
    refine wr_callVi [.int (3 : Int32)] [] (wg_da dt_X12_readAny 25 rfl) ⟨wq_7_190, wq_7_192, wq_p5_7⟩ hx0 ⟨rfl, by decide⟩ wy_X12_errs (fun q hq => m_X12_errs l E x0 (3 : Int32) hx0 _ q hq) rfl rfl (Nat.le_of_ble_eq_true rfl) ⟨rfl, rfl, by decide, by decide⟩ h (fun v3 s4 h => ?_)
    exact wr_iret (wg_da dt_X12_readAny 26 rfl) h
  · refine wr_aload_n (wg_da dt_X12_readAny 27 rfl) rfl ?_
    refine wr_aload_n (wg_da dt_X12_readAny 28 rfl) rfl ?_
    refine wr_getI wf_X12_244 (wg_da dt_X12_readAny 29 rfl) hx0 ?_
    refine wr_iconst (1 : Int32) (wg_da dt_X12_readAny 30 rfl) (by decide) ?_
    refine wr_iadd (wg_da dt_X12_readAny 31 rfl) ?_
    refine wr_putI wfp_X12_244 (wg_da dt_X12_readAny 32 rfl) hx0 h (fun s1 h => ?_)
    refine wr_iload_n (wg_da dt_X12_readAny 33 rfl) rfl ?_
    refine wr_if_ne 66 (wg_da dt_X12_readAny 34 rfl) (by decide) h (fun h => ?_) (fun h => ?_)
    · refine wr_iload_n (wg_da dt_X12_readAny 35 rfl) rfl ?_
      refine wr_iconst (1 : Int32) (wg_da dt_X12_readAny 36 rfl) (by decide) ?_
      refine wr_iadd (wg_da dt_X12_readAny 37 rfl) ?_
      refine wr_let h (fun v2 h => ?_)
      refine wr_istore_n (wg_da dt_X12_readAny 38 rfl) (by decide) ?_
      exact wr_wk [true, true, true, true] (g_X12_readAny_66 l E k9 x0 v2 x2 x3 s1 _ hx0 hk9 h)
    · exact wr_wk [true, true, true, true] (g_X12_readAny_66 l E k9 x0 x1 x2 x3 s1 _ hx0 hk9 h)
set_option maxRecDepth 20000 in
theorem g_X12_readAny_9 (l : Launch) (E : wg_E)  (z : Int32 × wg_M) : ∀ (n : Nat) (x0 : Nat) (x1 : Int32) (x2 : Int32) (σ : wg_M) (hx0 : wg_t Sm x0 = 14) (h : f_X12_readAny_9  n x0 x1 x2 σ = some z), wg_G l E Sm "WornWigsModel" cX12_readAny 4 (some .int) rm_X12_readAny (some z.1) z.2 9 [some (.ref x0), some (.int x1), some (.int x2), none] [] σ := by
  intro n
  induction n with
  | zero => intro x0 x1 x2 σ hx0 h; cases h
  | succ n ih =>
    intro x0 x1 x2 σ hx0 h
    refine wr_iload_n (wg_da dt_X12_readAny 7 rfl) rfl ?_
    refine wr_if_eq 109 (wg_da dt_X12_readAny 8 rfl) (by decide) h (fun h => ?_) (fun h => ?_)
    · refine wr_aload_n (wg_da dt_X12_readAny 61 rfl) rfl ?_
      refine wr_iconst (5 : Int32) (wg_da dt_X12_readAny 62 rfl) (by decide) ?_
      refine wr_callVi [.int (5 : Int32)] [] (wg_da dt_X12_readAny 63 rfl) ⟨wq_7_186, wq_7_188, wq_p5_6⟩ hx0 ⟨rfl, by decide⟩ wy_X12_isWord (fun q hq => m_X12_isWord l E x0 (5 : Int32) hx0 _ q hq) rfl rfl (Nat.le_of_ble_eq_true rfl) ⟨rfl, rfl, by decide, by decide⟩ h (fun v1 s2 h => ?_)
      refine wr_if_eq 138 (wg_da dt_X12_readAny 64 rfl) (by decide) h (fun h => ?_) (fun h => ?_)
      · refine wr_aload_n (wg_da dt_X12_readAny 76 rfl) rfl ?_
        refine wr_iconst (4 : Int32) (wg_da dt_X12_readAny 77 rfl) (by decide) ?_
        refine wr_callVi [.int (4 : Int32)] [] (wg_da dt_X12_readAny 78 rfl) ⟨wq_7_186, wq_7_188, wq_p5_6⟩ hx0 ⟨rfl, by decide⟩ wy_X12_isWord (fun q hq => m_X12_isWord l E x0 (4 : Int32) hx0 _ q hq) rfl rfl (Nat.le_of_ble_eq_true rfl) ⟨rfl, rfl, by decide, by decide⟩ h (fun v3 s4 h => ?_)
        refine wr_if_eq 173 (wg_da dt_X12_readAny 79 rfl) (by decide) h (fun h => ?_) (fun h => ?_)
        · refine wr_aload_n (wg_da dt_X12_readAny 94 rfl) rfl ?_
          refine wr_bipush (10 : Int32) (wg_da dt_X12_readAny 95 rfl) (by decide) ?_
          refine wr_callVv [.int (10 : Int32)] [] (wg_da dt_X12_readAny 96 rfl) ⟨wq_8_38, wq_8_40, wq_p6_13⟩ hx0 ⟨rfl, by decide⟩ wy_X12_settles (fun q hq => m_X12_settles l E x0 (10 : Int32) hx0 _ q hq) rfl rfl (Nat.le_of_ble_eq_true rfl) ⟨rfl, rfl, by decide, by decide⟩ h (fun _ s5 h => ?_)
          refine wr_aload_n (wg_da dt_X12_readAny 97 rfl) rfl ?_
          refine wr_bipush (11 : Int32) (wg_da dt_X12_readAny 98 rfl) (by decide) ?_
          refine wr_callVv [.int (11 : Int32)] [] (wg_da dt_X12_readAny 99 rfl) ⟨wq_8_38, wq_8_40, wq_p6_13⟩ hx0 ⟨rfl, by decide⟩ wy_X12_settles (fun q hq => m_X12_settles l E x0 (11 : Int32) hx0 _ q hq) rfl rfl (Nat.le_of_ble_eq_true rfl) ⟨rfl, rfl, by decide, by decide⟩ h (fun _ s6 h => ?_)
          refine wr_iload_n (wg_da dt_X12_readAny 100 rfl) rfl ?_
          refine wr_if_ne 191 (wg_da dt_X12_readAny 101 rfl) (by decide) h (fun h => ?_) (fun h => ?_)
          · refine wr_iconst (0 : Int32) (wg_da dt_X12_readAny 102 rfl) (by decide) ?_
            exact wr_iret (wg_da dt_X12_readAny 103 rfl) h
          · refine wr_aload_n (wg_da dt_X12_readAny 104 rfl) rfl ?_
            refine wr_bipush (41 : Int32) (wg_da dt_X12_readAny 105 rfl) (by decide) ?_
            refine wr_callVi [.int (41 : Int32)] [] (wg_da dt_X12_readAny 106 rfl) ⟨wq_7_210, wq_7_212, wq_p5_12⟩ hx0 ⟨rfl, by decide⟩ wy_X12_isSign (fun q hq => m_X12_isSign l E x0 (41 : Int32) hx0 _ q hq) rfl rfl (Nat.le_of_ble_eq_true rfl) ⟨rfl, rfl, by decide, by decide⟩ h (fun v7 s8 h => ?_)
            refine wr_if_ne 206 (wg_da dt_X12_readAny 107 rfl) (by decide) h (fun h => ?_) (fun h => ?_)
            · refine wr_aload_n (wg_da dt_X12_readAny 108 rfl) rfl ?_
              refine wr_iconst (1 : Int32) (wg_da dt_X12_readAny 109 rfl) (by decide) ?_
              refine wr_callVi [.int (1 : Int32)] [] (wg_da dt_X12_readAny 110 rfl) ⟨wq_7_190, wq_7_192, wq_p5_7⟩ hx0 ⟨rfl, by decide⟩ wy_X12_errs (fun q hq => m_X12_errs l E x0 (1 : Int32) hx0 _ q hq) rfl rfl (Nat.le_of_ble_eq_true rfl) ⟨rfl, rfl, by decide, by decide⟩ h (fun v14 s15 h => ?_)
              exact wr_iret (wg_da dt_X12_readAny 111 rfl) h
            · refine wr_aload_n (wg_da dt_X12_readAny 112 rfl) rfl ?_
              refine wr_aload_n (wg_da dt_X12_readAny 113 rfl) rfl ?_
              refine wr_getI wf_X12_241 (wg_da dt_X12_readAny 114 rfl) hx0 ?_
              refine wr_iconst (1 : Int32) (wg_da dt_X12_readAny 115 rfl) (by decide) ?_
              refine wr_isub (wg_da dt_X12_readAny 116 rfl) ?_
              refine wr_putI wfp_X12_241 (wg_da dt_X12_readAny 117 rfl) hx0 h (fun s9 h => ?_)
              refine wr_iload_n (wg_da dt_X12_readAny 118 rfl) rfl ?_
              refine wr_iconst (1 : Int32) (wg_da dt_X12_readAny 119 rfl) (by decide) ?_
              refine wr_isub (wg_da dt_X12_readAny 120 rfl) ?_
              refine wr_let h (fun v10 h => ?_)
              refine wr_istore_n (wg_da dt_X12_readAny 121 rfl) (by decide) ?_
              refine wr_aload_n (wg_da dt_X12_readAny 122 rfl) rfl ?_
              refine wr_aload_n (wg_da dt_X12_readAny 123 rfl) rfl ?_
              refine wr_getI wf_X12_244 (wg_da dt_X12_readAny 124 rfl) hx0 ?_
              refine wr_iconst (1 : Int32) (wg_da dt_X12_readAny 125 rfl) (by decide) ?_
              refine wr_isub (wg_da dt_X12_readAny 126 rfl) ?_
              refine wr_putI wfp_X12_244 (wg_da dt_X12_readAny 127 rfl) hx0 h (fun s11 h => ?_)
              refine wr_aload_n (wg_da dt_X12_readAny 128 rfl) rfl ?_
              refine wr_bipush (9 : Int32) (wg_da dt_X12_readAny 129 rfl) (by decide) ?_
              refine wr_callVv [.int (9 : Int32)] [] (wg_da dt_X12_readAny 130 rfl) ⟨wq_8_38, wq_8_40, wq_p6_13⟩ hx0 ⟨rfl, by decide⟩ wy_X12_settles (fun q hq => m_X12_settles l E x0 (9 : Int32) hx0 _ q hq) rfl rfl (Nat.le_of_ble_eq_true rfl) ⟨rfl, rfl, by decide, by decide⟩ h (fun _ s12 h => ?_)
              refine wr_aload_n (wg_da dt_X12_readAny 131 rfl) rfl ?_
              refine wr_callVv [] [] (wg_da dt_X12_readAny 132 rfl) ⟨wq_7_158, wq_7_160, wq_p4_15⟩ hx0 ⟨rfl, by decide⟩ wy_X12_reads (fun q hq => m_X12_reads l E x0 hx0 _ q hq) rfl rfl (Nat.le_of_ble_eq_true rfl) ⟨rfl, rfl, by decide, by decide⟩ h (fun _ s13 h => ?_)
              refine wr_goto 9 (wg_da dt_X12_readAny 133 rfl) (by decide) ?_
              exact wr_wk [true, true, true, false] (ih x0 v10 x2 s13 hx0 h)
        · refine wr_aload_n (wg_da dt_X12_readAny 80 rfl) rfl ?_
          refine wr_bipush (10 : Int32) (wg_da dt_X12_readAny 81 rfl) (by decide) ?_
          refine wr_callVv [.int (10 : Int32)] [] (wg_da dt_X12_readAny 82 rfl) ⟨wq_8_38, wq_8_40, wq_p6_13⟩ hx0 ⟨rfl, by decide⟩ wy_X12_settles (fun q hq => m_X12_settles l E x0 (10 : Int32) hx0 _ q hq) rfl rfl (Nat.le_of_ble_eq_true rfl) ⟨rfl, rfl, by decide, by decide⟩ h (fun _ s16 h => ?_)
          refine wr_aload_n (wg_da dt_X12_readAny 83 rfl) rfl ?_
          refine wr_bipush (11 : Int32) (wg_da dt_X12_readAny 84 rfl) (by decide) ?_
          refine wr_callVv [.int (11 : Int32)] [] (wg_da dt_X12_readAny 85 rfl) ⟨wq_8_38, wq_8_40, wq_p6_13⟩ hx0 ⟨rfl, by decide⟩ wy_X12_settles (fun q hq => m_X12_settles l E x0 (11 : Int32) hx0 _ q hq) rfl rfl (Nat.le_of_ble_eq_true rfl) ⟨rfl, rfl, by decide, by decide⟩ h (fun _ s17 h => ?_)
          refine wr_aload_n (wg_da dt_X12_readAny 86 rfl) rfl ?_
          refine wr_bipush (11 : Int32) (wg_da dt_X12_readAny 87 rfl) (by decide) ?_
          refine wr_callVv [.int (11 : Int32)] [] (wg_da dt_X12_readAny 88 rfl) ⟨wq_8_30, wq_8_32, wq_p6_11⟩ hx0 ⟨rfl, by decide⟩ wy_X12_waits (fun q hq => m_X12_waits l E x0 (11 : Int32) hx0 _ q hq) rfl rfl (Nat.le_of_ble_eq_true rfl) ⟨rfl, rfl, by decide, by decide⟩ h (fun _ s18 h => ?_)
          refine wr_aload_n (wg_da dt_X12_readAny 89 rfl) rfl ?_
          refine wr_callVv [] [] (wg_da dt_X12_readAny 90 rfl) ⟨wq_7_158, wq_7_160, wq_p4_15⟩ hx0 ⟨rfl, by decide⟩ wy_X12_reads (fun q hq => m_X12_reads l E x0 hx0 _ q hq) rfl rfl (Nat.le_of_ble_eq_true rfl) ⟨rfl, rfl, by decide, by decide⟩ h (fun _ s19 h => ?_)
          refine wr_iconst (1 : Int32) (wg_da dt_X12_readAny 91 rfl) (by decide) ?_
          refine wr_istore_n (wg_da dt_X12_readAny 92 rfl) (by decide) ?_
          refine wr_goto 9 (wg_da dt_X12_readAny 93 rfl) (by decide) ?_
          exact wr_wk [true, true, true, false] (ih x0 x1 (1 : Int32) s19 hx0 h)
      · refine wr_aload_n (wg_da dt_X12_readAny 65 rfl) rfl ?_
        refine wr_bipush (10 : Int32) (wg_da dt_X12_readAny 66 rfl) (by decide) ?_
        refine wr_callVv [.int (10 : Int32)] [] (wg_da dt_X12_readAny 67 rfl) ⟨wq_8_38, wq_8_40, wq_p6_13⟩ hx0 ⟨rfl, by decide⟩ wy_X12_settles (fun q hq => m_X12_settles l E x0 (10 : Int32) hx0 _ q hq) rfl rfl (Nat.le_of_ble_eq_true rfl) ⟨rfl, rfl, by decide, by decide⟩ h (fun _ s20 h => ?_)
        refine wr_aload_n (wg_da dt_X12_readAny 68 rfl) rfl ?_
        refine wr_bipush (10 : Int32) (wg_da dt_X12_readAny 69 rfl) (by decide) ?_
        refine wr_callVv [.int (10 : Int32)] [] (wg_da dt_X12_readAny 70 rfl) ⟨wq_8_30, wq_8_32, wq_p6_11⟩ hx0 ⟨rfl, by decide⟩ wy_X12_waits (fun q hq => m_X12_waits l E x0 (10 : Int32) hx0 _ q hq) rfl rfl (Nat.le_of_ble_eq_true rfl) ⟨rfl, rfl, by decide, by decide⟩ h (fun _ s21 h => ?_)
        refine wr_aload_n (wg_da dt_X12_readAny 71 rfl) rfl ?_
        refine wr_callVv [] [] (wg_da dt_X12_readAny 72 rfl) ⟨wq_7_158, wq_7_160, wq_p4_15⟩ hx0 ⟨rfl, by decide⟩ wy_X12_reads (fun q hq => m_X12_reads l E x0 hx0 _ q hq) rfl rfl (Nat.le_of_ble_eq_true rfl) ⟨rfl, rfl, by decide, by decide⟩ h (fun _ s22 h => ?_)
        refine wr_iconst (1 : Int32) (wg_da dt_X12_readAny 73 rfl) (by decide) ?_
        refine wr_istore_n (wg_da dt_X12_readAny 74 rfl) (by decide) ?_
        refine wr_goto 9 (wg_da dt_X12_readAny 75 rfl) (by decide) ?_
        exact wr_wk [true, true, true, false] (ih x0 x1 (1 : Int32) s22 hx0 h)
    · refine wr_aload_n (wg_da dt_X12_readAny 9 rfl) rfl ?_
      refine wr_bipush (6 : Int32) (wg_da dt_X12_readAny 10 rfl) (by decide) ?_
      refine wr_callVi [.int (6 : Int32)] [] (wg_da dt_X12_readAny 11 rfl) ⟨wq_7_186, wq_7_188, wq_p5_6⟩ hx0 ⟨rfl, by decide⟩ wy_X12_isWord (fun q hq => m_X12_isWord l E x0 (6 : Int32) hx0 _ q hq) rfl rfl (Nat.le_of_ble_eq_true rfl) ⟨rfl, rfl, by decide, by decide⟩ h (fun v23 s24 h => ?_)
      refine wr_istore_n (wg_da dt_X12_readAny 12 rfl) (by decide) ?_
      refine wr_iload_n (wg_da dt_X12_readAny 13 rfl) rfl ?_
      refine wr_if_ne 33 (wg_da dt_X12_readAny 14 rfl) (by decide) h (fun h => ?_) (fun h => ?_)
      · refine wr_aload_n (wg_da dt_X12_readAny 15 rfl) rfl ?_
        refine wr_bipush (40 : Int32) (wg_da dt_X12_readAny 16 rfl) (by decide) ?_
        refine wr_callVi [.int (40 : Int32)] [] (wg_da dt_X12_readAny 17 rfl) ⟨wq_7_210, wq_7_212, wq_p5_12⟩ hx0 ⟨rfl, by decide⟩ wy_X12_isSign (fun q hq => m_X12_isSign l E x0 (40 : Int32) hx0 _ q hq) rfl rfl (Nat.le_of_ble_eq_true rfl) ⟨rfl, rfl, by decide, by decide⟩ h (fun v25 s26 h => ?_)
        refine wr_if_eq 88 (wg_da dt_X12_readAny 18 rfl) (by decide) h (fun h => ?_) (fun h => ?_)
        · refine wr_aload_n (wg_da dt_X12_readAny 49 rfl) rfl ?_
          refine wr_callVi [] [] (wg_da dt_X12_readAny 50 rfl) ⟨wq_8_34, wq_8_36, wq_p6_12⟩ hx0 ⟨rfl, by decide⟩ wy_X12_readCompared (fun q hq => m_X12_readCompared l E x0 hx0 _ q hq) rfl rfl (Nat.le_of_ble_eq_true rfl) ⟨rfl, rfl, by decide, by decide⟩ h (fun v27 s28 h => ?_)
          refine wr_iconst (-1 : Int32) (wg_da dt_X12_readAny 51 rfl) (by decide) ?_
          refine wr_icmp_ne 98 (wg_da dt_X12_readAny 52 rfl) (by decide) h (fun h => ?_) (fun h => ?_)
          · refine wr_iconst (-1 : Int32) (wg_da dt_X12_readAny 53 rfl) (by decide) ?_
            exact wr_iret (wg_da dt_X12_readAny 54 rfl) h
          · refine wr_aload_n (wg_da dt_X12_readAny 55 rfl) rfl ?_
            refine wr_bipush (9 : Int32) (wg_da dt_X12_readAny 56 rfl) (by decide) ?_
            refine wr_callVv [.int (9 : Int32)] [] (wg_da dt_X12_readAny 57 rfl) ⟨wq_8_38, wq_8_40, wq_p6_13⟩ hx0 ⟨rfl, by decide⟩ wy_X12_settles (fun q hq => m_X12_settles l E x0 (9 : Int32) hx0 _ q hq) rfl rfl (Nat.le_of_ble_eq_true rfl) ⟨rfl, rfl, by decide, by decide⟩ h (fun _ s29 h => ?_)
            refine wr_iconst (0 : Int32) (wg_da dt_X12_readAny 58 rfl) (by decide) ?_
            refine wr_istore_n (wg_da dt_X12_readAny 59 rfl) (by decide) ?_
            refine wr_goto 9 (wg_da dt_X12_readAny 60 rfl) (by decide) ?_
            exact wr_wk [true, true, true, false] (ih x0 x1 (0 : Int32) s29 hx0 h)
        · exact wr_wk [true, true, true, true] (g_X12_readAny_33 l E (f_X12_readAny_9  n) x0 x1 x2 v23 s26 _ hx0 (fun x0 x1 x2 σ hx0 h => ih x0 x1 x2 σ hx0 h) h)
      · exact wr_wk [true, true, true, true] (g_X12_readAny_33 l E (f_X12_readAny_9  n) x0 x1 x2 v23 s24 _ hx0 (fun x0 x1 x2 σ hx0 h => ih x0 x1 x2 σ hx0 h) h)
set_option maxRecDepth 20000 in
theorem g_X12_readAny_e (l : Launch) (E : wg_E)  (x0 : Nat) (σ : wg_M) (z : Int32 × wg_M) (hx0 : wg_t Sm x0 = 14) (h : f_X12_readAny  x0 σ = some z) : wg_G l E Sm "WornWigsModel" cX12_readAny 4 (some .int) rm_X12_readAny (some z.1) z.2 0 [some (.ref x0), none, none, none] [] σ := by
  refine wr_iconst (0 : Int32) (wg_da dt_X12_readAny 0 rfl) (by decide) ?_
  refine wr_istore_n (wg_da dt_X12_readAny 1 rfl) (by decide) ?_
  refine wr_aload_n (wg_da dt_X12_readAny 2 rfl) rfl ?_
  refine wr_iconst (0 : Int32) (wg_da dt_X12_readAny 3 rfl) (by decide) ?_
  refine wr_putI wfp_X12_241 (wg_da dt_X12_readAny 4 rfl) hx0 h (fun s1 h => ?_)
  refine wr_iconst (1 : Int32) (wg_da dt_X12_readAny 5 rfl) (by decide) ?_
  refine wr_istore_n (wg_da dt_X12_readAny 6 rfl) (by decide) ?_
  exact wr_wk [true, true, true, false] (g_X12_readAny_9 l E  _  wg_N x0 (0 : Int32) (1 : Int32) s1 hx0 h)
theorem m_X12_readAny (l : Launch) (E : wg_E) (x0 : Nat) (hx0 : wg_t Sm x0 = 14) (σ : wg_M) (q : Int32 × wg_M) (h : f_X12_readAny x0 σ = some q) : wg_MG l E Sm yX12_readAny cX12_readAny 4 (some .int) rm_X12_readAny [.ref x0] σ (some q.1) q.2 :=
  wg_met [.ref x0] (plainFor_of_name (by decide)) (Nat.le_of_ble_eq_true rfl) (g_X12_readAny_e l E x0 σ q hx0 h)
abbrev rm_X12_isLineWord : Room := { frames := 1, cells := 0, slots := 0, locals := 23 }
def tb_X12_isLineWord : List (Nat × Instr × Nat) := [(0, .aload_n 0, 1), (1, .getfield 188, 3), (4, .iconst 2, 1), (5, .if_icmp .ne 20, 3), (8, .aload_n 0, 1), (9, .aload_n 0, 1), (10, .getfield 191, 3), (13, .iconst 0, 1), (14, .iconst 2, 1), (15, .invokevirtual 153, 3), (18, .ifCond .eq 7, 3), (21, .iconst 1, 1), (22, .goto 4, 3), (25, .iconst 0, 1), (26, .ireturn, 1)]
theorem dt_X12_isLineWord : wg_dc cX12_isLineWord tb_X12_isLineWord := by unfold wg_dc; decide +kernel
def f_X12_isLineWord  (x0 : Nat) (σ : wg_M) : Option (Int32 × wg_M) := if (σ x0 18) = (2 : Int32) then (wg_bd (f_X12_isIn x0 (σ x0 19) (0 : Int32) (2 : Int32) σ) (fun v1 s2 => if v1 = 0 then (some ((0 : Int32), s2)) else (some ((1 : Int32), s2)))) else (some ((0 : Int32), σ))
set_option maxRecDepth 20000 in
theorem g_X12_isLineWord_e (l : Launch) (E : wg_E)  (x0 : Nat) (σ : wg_M) (z : Int32 × wg_M) (hx0 : wg_t Sm x0 = 14) (h : f_X12_isLineWord  x0 σ = some z) : wg_G l E Sm "WornWigsModel" cX12_isLineWord 1 (some .boolean) rm_X12_isLineWord (some z.1) z.2 0 [some (.ref x0)] [] σ := by
  refine wr_aload_n (wg_da dt_X12_isLineWord 0 rfl) rfl ?_
  refine wr_getI wf_X12_188 (wg_da dt_X12_isLineWord 1 rfl) hx0 ?_
  refine wr_iconst (2 : Int32) (wg_da dt_X12_isLineWord 2 rfl) (by decide) ?_
  refine wr_icmp_ne 25 (wg_da dt_X12_isLineWord 3 rfl) (by decide) h (fun h => ?_) (fun h => ?_)
  · refine wr_aload_n (wg_da dt_X12_isLineWord 4 rfl) rfl ?_
    refine wr_aload_n (wg_da dt_X12_isLineWord 5 rfl) rfl ?_
    refine wr_getI wf_X12_191 (wg_da dt_X12_isLineWord 6 rfl) hx0 ?_
    refine wr_iconst (0 : Int32) (wg_da dt_X12_isLineWord 7 rfl) (by decide) ?_
    refine wr_iconst (2 : Int32) (wg_da dt_X12_isLineWord 8 rfl) (by decide) ?_
    refine wr_callVi [.int (σ x0 19), .int (0 : Int32), .int (2 : Int32)] [] (wg_da dt_X12_isLineWord 9 rfl) ⟨wq_7_82, wq_7_84, wq_p4_3⟩ hx0 ⟨rfl, by decide⟩ wy_X12_isIn (fun q hq => m_X12_isIn l E x0 (σ x0 19) (0 : Int32) (2 : Int32) hx0 _ q hq) rfl rfl (Nat.le_of_ble_eq_true rfl) ⟨rfl, rfl, by decide, by decide⟩ h (fun v1 s2 h => ?_)
    refine wr_if_eq 25 (wg_da dt_X12_isLineWord 10 rfl) (by decide) h (fun h => ?_) (fun h => ?_)
    · refine wr_iconst (0 : Int32) (wg_da dt_X12_isLineWord 13 rfl) (by decide) ?_
      exact wr_zret0 (wg_da dt_X12_isLineWord 14 rfl) h
    · refine wr_iconst (1 : Int32) (wg_da dt_X12_isLineWord 11 rfl) (by decide) ?_
      refine wr_goto 26 (wg_da dt_X12_isLineWord 12 rfl) (by decide) ?_
      exact wr_zret1 (wg_da dt_X12_isLineWord 14 rfl) h
  · refine wr_iconst (0 : Int32) (wg_da dt_X12_isLineWord 13 rfl) (by decide) ?_
    exact wr_zret0 (wg_da dt_X12_isLineWord 14 rfl) h
theorem m_X12_isLineWord (l : Launch) (E : wg_E) (x0 : Nat) (hx0 : wg_t Sm x0 = 14) (σ : wg_M) (q : Int32 × wg_M) (h : f_X12_isLineWord x0 σ = some q) : wg_MG l E Sm yX12_isLineWord cX12_isLineWord 1 (some .boolean) rm_X12_isLineWord [.ref x0] σ (some q.1) q.2 :=
  wg_met [.ref x0] (plainFor_of_name (by decide)) (Nat.le_of_ble_eq_true rfl) (g_X12_isLineWord_e l E x0 σ q hx0 h)

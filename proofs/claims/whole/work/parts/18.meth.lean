abbrev rm_X12_asks : Room := { frames := 0, cells := 0, slots := 0, locals := 0 }
def tb_X12_asks : List (Nat × Instr × Nat) := [(0, .aload_n 0, 1), (1, .getfield 77, 3), (4, .iconst 0, 1), (5, .iload_n 1, 1), (6, .iconst (-1), 1), (7, .if_icmp .ne 7, 3), (10, .iconst 0, 1), (11, .goto 11, 3), (14, .aload_n 0, 1), (15, .getfield 7, 3), (18, .iconst 3, 1), (19, .iload_n 1, 1), (20, .iadd, 1), (21, .iaload, 1), (22, .iastore, 1), (23, .aload_n 0, 1), (24, .getfield 77, 3), (27, .iconst 1, 1), (28, .iload_n 1, 1), (29, .iconst (-1), 1), (30, .if_icmp .ne 7, 3), (33, .iconst 0, 1), (34, .goto 9, 3), (37, .aload_n 0, 1), (38, .getfield 22, 3), (41, .iload_n 1, 1), (42, .iaload, 1), (43, .iastore, 1), (44, .aload_n 0, 1), (45, .getfield 77, 3), (48, .iconst 2, 1), (49, .iload_n 2, 1), (50, .iconst (-1), 1), (51, .if_icmp .ne 7, 3), (54, .iconst 0, 1), (55, .goto 9, 3), (58, .aload_n 0, 1), (59, .getfield 19, 3), (62, .iload_n 2, 1), (63, .iaload, 1), (64, .iastore, 1), (65, .aload_n 0, 1), (66, .getfield 77, 3), (69, .iconst 3, 1), (70, .iload_n 2, 1), (71, .iconst (-1), 1), (72, .if_icmp .ne 7, 3), (75, .iconst 0, 1), (76, .goto 12, 3), (79, .aload_n 0, 1), (80, .getfield 7, 3), (83, .bipush 43, 2), (85, .iload_n 2, 1), (86, .iadd, 1), (87, .iaload, 1), (88, .iastore, 1), (89, .aload_n 0, 1), (90, .getfield 77, 3), (93, .iconst 4, 1), (94, .iload_n 2, 1), (95, .iconst (-1), 1), (96, .if_icmp .ne 7, 3), (99, .iconst 0, 1), (100, .goto 12, 3), (103, .aload_n 0, 1), (104, .getfield 7, 3), (107, .bipush 51, 2), (109, .iload_n 2, 1), (110, .iadd, 1), (111, .iaload, 1), (112, .iastore, 1), (113, .aload_n 0, 1), (114, .getfield 77, 3), (117, .iconst 5, 1), (118, .iload_n 2, 1), (119, .iconst (-1), 1), (120, .if_icmp .ne 7, 3), (123, .iconst 0, 1), (124, .goto 12, 3), (127, .aload_n 0, 1), (128, .getfield 7, 3), (131, .bipush 59, 2), (133, .iload_n 2, 1), (134, .iadd, 1), (135, .iaload, 1), (136, .iastore, 1), (137, .aload_n 0, 1), (138, .getfield 77, 3), (141, .bipush 6, 2), (143, .iconst 0, 1), (144, .iastore, 1), (145, .aload_n 0, 1), (146, .getfield 77, 3), (149, .bipush 7, 2), (151, .iconst 0, 1), (152, .iastore, 1), (153, .aload_n 0, 1), (154, .getfield 77, 3), (157, .bipush 8, 2), (159, .iload_n 1, 1), (160, .iconst (-1), 1), (161, .if_icmp .ne 7, 3), (164, .iconst 0, 1), (165, .goto 12, 3), (168, .aload_n 0, 1), (169, .getfield 7, 3), (172, .bipush 33, 2), (174, .iload_n 1, 1), (175, .iadd, 1), (176, .iaload, 1), (177, .iastore, 1), (178, .aload_n 0, 1), (179, .getfield 77, 3), (182, .bipush 9, 2), (184, .aload_n 0, 1), (185, .getfield 7, 3), (188, .iconst 0, 1), (189, .iaload, 1), (190, .iastore, 1), (191, .return_, 1)]
theorem dt_X12_asks : wg_dc cX12_asks tb_X12_asks := by unfold wg_dc; decide +kernel
def f_X12_asks_177  (x0 : Nat) (t0 : Int32) (t1 : Int32) (t2 : Nat) (σ : wg_M) : Option (Int32 × wg_M) := wg_sa (wg_n Sm t2) σ t2 t1 t0 (fun s1 => wg_ga (wg_n Sm (wg_r Sm x0 1)) (s1 (wg_r Sm x0 1)) (0 : Int32) (fun v2 => wg_sa (wg_n Sm (wg_r Sm x0 43)) s1 (wg_r Sm x0 43) (9 : Int32) v2 (fun s3 => some (0, s3))))
def f_X12_asks_136  (x0 : Nat) (x1 : Int32) (t0 : Int32) (t1 : Int32) (t2 : Nat) (σ : wg_M) : Option (Int32 × wg_M) := wg_sa (wg_n Sm t2) σ t2 t1 t0 (fun s1 => wg_sa (wg_n Sm (wg_r Sm x0 43)) s1 (wg_r Sm x0 43) (6 : Int32) (0 : Int32) (fun s2 => wg_sa (wg_n Sm (wg_r Sm x0 43)) s2 (wg_r Sm x0 43) (7 : Int32) (0 : Int32) (fun s3 => if x1 = (-1 : Int32) then (f_X12_asks_177  x0 (0 : Int32) (8 : Int32) (wg_r Sm x0 43) s3) else (wg_ga (wg_n Sm (wg_r Sm x0 1)) (s3 (wg_r Sm x0 1)) ((33 : Int32) + x1) (fun v4 => f_X12_asks_177  x0 v4 (8 : Int32) (wg_r Sm x0 43) s3)))))
def f_X12_asks_112  (x0 : Nat) (x1 : Int32) (x2 : Int32) (t0 : Int32) (t1 : Int32) (t2 : Nat) (σ : wg_M) : Option (Int32 × wg_M) := wg_sa (wg_n Sm t2) σ t2 t1 t0 (fun s1 => if x2 = (-1 : Int32) then (f_X12_asks_136  x0 x1 (0 : Int32) (5 : Int32) (wg_r Sm x0 43) s1) else (wg_ga (wg_n Sm (wg_r Sm x0 1)) (s1 (wg_r Sm x0 1)) ((59 : Int32) + x2) (fun v2 => f_X12_asks_136  x0 x1 v2 (5 : Int32) (wg_r Sm x0 43) s1)))
def f_X12_asks_88  (x0 : Nat) (x1 : Int32) (x2 : Int32) (t0 : Int32) (t1 : Int32) (t2 : Nat) (σ : wg_M) : Option (Int32 × wg_M) := wg_sa (wg_n Sm t2) σ t2 t1 t0 (fun s1 => if x2 = (-1 : Int32) then (f_X12_asks_112  x0 x1 x2 (0 : Int32) (4 : Int32) (wg_r Sm x0 43) s1) else (wg_ga (wg_n Sm (wg_r Sm x0 1)) (s1 (wg_r Sm x0 1)) ((51 : Int32) + x2) (fun v2 => f_X12_asks_112  x0 x1 x2 v2 (4 : Int32) (wg_r Sm x0 43) s1)))
def f_X12_asks_64  (x0 : Nat) (x1 : Int32) (x2 : Int32) (t0 : Int32) (t1 : Int32) (t2 : Nat) (σ : wg_M) : Option (Int32 × wg_M) := wg_sa (wg_n Sm t2) σ t2 t1 t0 (fun s1 => if x2 = (-1 : Int32) then (f_X12_asks_88  x0 x1 x2 (0 : Int32) (3 : Int32) (wg_r Sm x0 43) s1) else (wg_ga (wg_n Sm (wg_r Sm x0 1)) (s1 (wg_r Sm x0 1)) ((43 : Int32) + x2) (fun v2 => f_X12_asks_88  x0 x1 x2 v2 (3 : Int32) (wg_r Sm x0 43) s1)))
def f_X12_asks_43  (x0 : Nat) (x1 : Int32) (x2 : Int32) (t0 : Int32) (t1 : Int32) (t2 : Nat) (σ : wg_M) : Option (Int32 × wg_M) := wg_sa (wg_n Sm t2) σ t2 t1 t0 (fun s1 => if x2 = (-1 : Int32) then (f_X12_asks_64  x0 x1 x2 (0 : Int32) (2 : Int32) (wg_r Sm x0 43) s1) else (wg_ga (wg_n Sm (wg_r Sm x0 9)) (s1 (wg_r Sm x0 9)) x2 (fun v2 => f_X12_asks_64  x0 x1 x2 v2 (2 : Int32) (wg_r Sm x0 43) s1)))
def f_X12_asks_22  (x0 : Nat) (x1 : Int32) (x2 : Int32) (t0 : Int32) (t1 : Int32) (t2 : Nat) (σ : wg_M) : Option (Int32 × wg_M) := wg_sa (wg_n Sm t2) σ t2 t1 t0 (fun s1 => if x1 = (-1 : Int32) then (f_X12_asks_43  x0 x1 x2 (0 : Int32) (1 : Int32) (wg_r Sm x0 43) s1) else (wg_ga (wg_n Sm (wg_r Sm x0 10)) (s1 (wg_r Sm x0 10)) x1 (fun v2 => f_X12_asks_43  x0 x1 x2 v2 (1 : Int32) (wg_r Sm x0 43) s1)))
def f_X12_asks  (x0 : Nat) (x1 : Int32) (x2 : Int32) (σ : wg_M) : Option (Int32 × wg_M) := if x1 = (-1 : Int32) then (f_X12_asks_22  x0 x1 x2 (0 : Int32) (0 : Int32) (wg_r Sm x0 43) σ) else (wg_ga (wg_n Sm (wg_r Sm x0 1)) (σ (wg_r Sm x0 1)) ((3 : Int32) + x1) (fun v1 => f_X12_asks_22  x0 x1 x2 v1 (0 : Int32) (wg_r Sm x0 43) σ))
set_option maxRecDepth 20000 in
theorem g_X12_asks_177 (l : Launch) (E : wg_E)  (x0 : Nat) (t0 : Int32) (t1 : Int32) (t2 : Nat) (σ : wg_M) (z : Int32 × wg_M) (hx0 : wg_t Sm x0 = 14) (ht2 : wg_t Sm t2 = 0) (h : f_X12_asks_177  x0 t0 t1 t2 σ = some z) : wg_G l E Sm "WornWigsModel" cX12_asks 3 none rm_X12_asks none z.2 177 [some (.ref x0), none, none] [.int t0, .int t1, .ref t2] σ := by
  refine wr_iast (wg_da dt_X12_asks 110 rfl) ht2 h (fun s1 h => ?_)
  refine wr_aload_n (wg_da dt_X12_asks 111 rfl) rfl ?_
  refine wr_getR wf_X12_77 (wg_da dt_X12_asks 112 rfl) hx0 ?_
  refine wr_bipush (9 : Int32) (wg_da dt_X12_asks 113 rfl) (by decide) ?_
  refine wr_aload_n (wg_da dt_X12_asks 114 rfl) rfl ?_
  refine wr_getR wf_X12_7 (wg_da dt_X12_asks 115 rfl) hx0 ?_
  refine wr_iconst (0 : Int32) (wg_da dt_X12_asks 116 rfl) (by decide) ?_
  refine wr_iald (wg_da dt_X12_asks 117 rfl) (wg_ty Sm_ok 12 1 0 hx0 rfl (by decide)).2 h (fun v2 h => ?_)
  refine wr_iast (wg_da dt_X12_asks 118 rfl) (wg_ty Sm_ok 12 43 0 hx0 rfl (by decide)).2 h (fun s3 h => ?_)
  exact wr_vret (wg_da dt_X12_asks 119 rfl) h
set_option maxRecDepth 20000 in
theorem g_X12_asks_136 (l : Launch) (E : wg_E)  (x0 : Nat) (x1 : Int32) (t0 : Int32) (t1 : Int32) (t2 : Nat) (σ : wg_M) (z : Int32 × wg_M) (hx0 : wg_t Sm x0 = 14) (ht2 : wg_t Sm t2 = 0) (h : f_X12_asks_136  x0 x1 t0 t1 t2 σ = some z) : wg_G l E Sm "WornWigsModel" cX12_asks 3 none rm_X12_asks none z.2 136 [some (.ref x0), some (.int x1), none] [.int t0, .int t1, .ref t2] σ := by
  refine wr_iast (wg_da dt_X12_asks 85 rfl) ht2 h (fun s1 h => ?_)
  refine wr_aload_n (wg_da dt_X12_asks 86 rfl) rfl ?_
  refine wr_getR wf_X12_77 (wg_da dt_X12_asks 87 rfl) hx0 ?_
  refine wr_bipush (6 : Int32) (wg_da dt_X12_asks 88 rfl) (by decide) ?_
  refine wr_iconst (0 : Int32) (wg_da dt_X12_asks 89 rfl) (by decide) ?_
  refine wr_iast (wg_da dt_X12_asks 90 rfl) (wg_ty Sm_ok 12 43 0 hx0 rfl (by decide)).2 h (fun s2 h => ?_)
  refine wr_aload_n (wg_da dt_X12_asks 91 rfl) rfl ?_
  refine wr_getR wf_X12_77 (wg_da dt_X12_asks 92 rfl) hx0 ?_
  refine wr_bipush (7 : Int32) (wg_da dt_X12_asks 93 rfl) (by decide) ?_
  refine wr_iconst (0 : Int32) (wg_da dt_X12_asks 94 rfl) (by decide) ?_
  refine wr_iast (wg_da dt_X12_asks 95 rfl) (wg_ty Sm_ok 12 43 0 hx0 rfl (by decide)).2 h (fun s3 h => ?_)
  refine wr_aload_n (wg_da dt_X12_asks 96 rfl) rfl ?_
  refine wr_getR wf_X12_77 (wg_da dt_X12_asks 97 rfl) hx0 ?_
  refine wr_bipush (8 : Int32) (wg_da dt_X12_asks 98 rfl) (by decide) ?_
  refine wr_iload_n (wg_da dt_X12_asks 99 rfl) rfl ?_
  refine wr_iconst (-1 : Int32) (wg_da dt_X12_asks 100 rfl) (by decide) ?_
  refine wr_icmp_ne 168 (wg_da dt_X12_asks 101 rfl) (by decide) h (fun h => ?_) (fun h => ?_)
  · refine wr_iconst (0 : Int32) (wg_da dt_X12_asks 102 rfl) (by decide) ?_
    refine wr_goto 177 (wg_da dt_X12_asks 103 rfl) (by decide) ?_
    exact wr_wk [true, false, false] (g_X12_asks_177 l E  x0 (0 : Int32) (8 : Int32) (wg_r Sm x0 43) s3 _ hx0 (wg_ty Sm_ok 12 43 0 hx0 rfl (by decide)).2  h)
  · refine wr_aload_n (wg_da dt_X12_asks 104 rfl) rfl ?_
    refine wr_getR wf_X12_7 (wg_da dt_X12_asks 105 rfl) hx0 ?_
    refine wr_bipush (33 : Int32) (wg_da dt_X12_asks 106 rfl) (by decide) ?_
    refine wr_iload_n (wg_da dt_X12_asks 107 rfl) rfl ?_
    refine wr_iadd (wg_da dt_X12_asks 108 rfl) ?_
    refine wr_iald (wg_da dt_X12_asks 109 rfl) (wg_ty Sm_ok 12 1 0 hx0 rfl (by decide)).2 h (fun v4 h => ?_)
    exact wr_wk [true, false, false] (g_X12_asks_177 l E  x0 v4 (8 : Int32) (wg_r Sm x0 43) s3 _ hx0 (wg_ty Sm_ok 12 43 0 hx0 rfl (by decide)).2  h)
set_option maxRecDepth 20000 in
theorem g_X12_asks_112 (l : Launch) (E : wg_E)  (x0 : Nat) (x1 : Int32) (x2 : Int32) (t0 : Int32) (t1 : Int32) (t2 : Nat) (σ : wg_M) (z : Int32 × wg_M) (hx0 : wg_t Sm x0 = 14) (ht2 : wg_t Sm t2 = 0) (h : f_X12_asks_112  x0 x1 x2 t0 t1 t2 σ = some z) : wg_G l E Sm "WornWigsModel" cX12_asks 3 none rm_X12_asks none z.2 112 [some (.ref x0), some (.int x1), some (.int x2)] [.int t0, .int t1, .ref t2] σ := by
  refine wr_iast (wg_da dt_X12_asks 70 rfl) ht2 h (fun s1 h => ?_)
  refine wr_aload_n (wg_da dt_X12_asks 71 rfl) rfl ?_
  refine wr_getR wf_X12_77 (wg_da dt_X12_asks 72 rfl) hx0 ?_
  refine wr_iconst (5 : Int32) (wg_da dt_X12_asks 73 rfl) (by decide) ?_
  refine wr_iload_n (wg_da dt_X12_asks 74 rfl) rfl ?_
  refine wr_iconst (-1 : Int32) (wg_da dt_X12_asks 75 rfl) (by decide) ?_
  refine wr_icmp_ne 127 (wg_da dt_X12_asks 76 rfl) (by decide) h (fun h => ?_) (fun h => ?_)
  · refine wr_iconst (0 : Int32) (wg_da dt_X12_asks 77 rfl) (by decide) ?_
    refine wr_goto 136 (wg_da dt_X12_asks 78 rfl) (by decide) ?_
    exact wr_wk [true, true, false] (g_X12_asks_136 l E  x0 x1 (0 : Int32) (5 : Int32) (wg_r Sm x0 43) s1 _ hx0 (wg_ty Sm_ok 12 43 0 hx0 rfl (by decide)).2  h)
  · refine wr_aload_n (wg_da dt_X12_asks 79 rfl) rfl ?_
    refine wr_getR wf_X12_7 (wg_da dt_X12_asks 80 rfl) hx0 ?_
    refine wr_bipush (59 : Int32) (wg_da dt_X12_asks 81 rfl) (by decide) ?_
    refine wr_iload_n (wg_da dt_X12_asks 82 rfl) rfl ?_
    refine wr_iadd (wg_da dt_X12_asks 83 rfl) ?_
    refine wr_iald (wg_da dt_X12_asks 84 rfl) (wg_ty Sm_ok 12 1 0 hx0 rfl (by decide)).2 h (fun v2 h => ?_)
    exact wr_wk [true, true, false] (g_X12_asks_136 l E  x0 x1 v2 (5 : Int32) (wg_r Sm x0 43) s1 _ hx0 (wg_ty Sm_ok 12 43 0 hx0 rfl (by decide)).2  h)
set_option maxRecDepth 20000 in
theorem g_X12_asks_88 (l : Launch) (E : wg_E)  (x0 : Nat) (x1 : Int32) (x2 : Int32) (t0 : Int32) (t1 : Int32) (t2 : Nat) (σ : wg_M) (z : Int32 × wg_M) (hx0 : wg_t Sm x0 = 14) (ht2 : wg_t Sm t2 = 0) (h : f_X12_asks_88  x0 x1 x2 t0 t1 t2 σ = some z) : wg_G l E Sm "WornWigsModel" cX12_asks 3 none rm_X12_asks none z.2 88 [some (.ref x0), some (.int x1), some (.int x2)] [.int t0, .int t1, .ref t2] σ := by
  refine wr_iast (wg_da dt_X12_asks 55 rfl) ht2 h (fun s1 h => ?_)
  refine wr_aload_n (wg_da dt_X12_asks 56 rfl) rfl ?_
  refine wr_getR wf_X12_77 (wg_da dt_X12_asks 57 rfl) hx0 ?_
  refine wr_iconst (4 : Int32) (wg_da dt_X12_asks 58 rfl) (by decide) ?_
  refine wr_iload_n (wg_da dt_X12_asks 59 rfl) rfl ?_
  refine wr_iconst (-1 : Int32) (wg_da dt_X12_asks 60 rfl) (by decide) ?_
  refine wr_icmp_ne 103 (wg_da dt_X12_asks 61 rfl) (by decide) h (fun h => ?_) (fun h => ?_)
  · refine wr_iconst (0 : Int32) (wg_da dt_X12_asks 62 rfl) (by decide) ?_
    refine wr_goto 112 (wg_da dt_X12_asks 63 rfl) (by decide) ?_
    exact wr_wk [true, true, true] (g_X12_asks_112 l E  x0 x1 x2 (0 : Int32) (4 : Int32) (wg_r Sm x0 43) s1 _ hx0 (wg_ty Sm_ok 12 43 0 hx0 rfl (by decide)).2  h)
  · refine wr_aload_n (wg_da dt_X12_asks 64 rfl) rfl ?_
    refine wr_getR wf_X12_7 (wg_da dt_X12_asks 65 rfl) hx0 ?_
    refine wr_bipush (51 : Int32) (wg_da dt_X12_asks 66 rfl) (by decide) ?_
    refine wr_iload_n (wg_da dt_X12_asks 67 rfl) rfl ?_
    refine wr_iadd (wg_da dt_X12_asks 68 rfl) ?_
    refine wr_iald (wg_da dt_X12_asks 69 rfl) (wg_ty Sm_ok 12 1 0 hx0 rfl (by decide)).2 h (fun v2 h => ?_)
    exact wr_wk [true, true, true] (g_X12_asks_112 l E  x0 x1 x2 v2 (4 : Int32) (wg_r Sm x0 43) s1 _ hx0 (wg_ty Sm_ok 12 43 0 hx0 rfl (by decide)).2  h)
set_option maxRecDepth 20000 in
theorem g_X12_asks_64 (l : Launch) (E : wg_E)  (x0 : Nat) (x1 : Int32) (x2 : Int32) (t0 : Int32) (t1 : Int32) (t2 : Nat) (σ : wg_M) (z : Int32 × wg_M) (hx0 : wg_t Sm x0 = 14) (ht2 : wg_t Sm t2 = 0) (h : f_X12_asks_64  x0 x1 x2 t0 t1 t2 σ = some z) : wg_G l E Sm "WornWigsModel" cX12_asks 3 none rm_X12_asks none z.2 64 [some (.ref x0), some (.int x1), some (.int x2)] [.int t0, .int t1, .ref t2] σ := by
  refine wr_iast (wg_da dt_X12_asks 40 rfl) ht2 h (fun s1 h => ?_)
  refine wr_aload_n (wg_da dt_X12_asks 41 rfl) rfl ?_
  refine wr_getR wf_X12_77 (wg_da dt_X12_asks 42 rfl) hx0 ?_
  refine wr_iconst (3 : Int32) (wg_da dt_X12_asks 43 rfl) (by decide) ?_
  refine wr_iload_n (wg_da dt_X12_asks 44 rfl) rfl ?_
  refine wr_iconst (-1 : Int32) (wg_da dt_X12_asks 45 rfl) (by decide) ?_
  refine wr_icmp_ne 79 (wg_da dt_X12_asks 46 rfl) (by decide) h (fun h => ?_) (fun h => ?_)
  · refine wr_iconst (0 : Int32) (wg_da dt_X12_asks 47 rfl) (by decide) ?_
    refine wr_goto 88 (wg_da dt_X12_asks 48 rfl) (by decide) ?_
    exact wr_wk [true, true, true] (g_X12_asks_88 l E  x0 x1 x2 (0 : Int32) (3 : Int32) (wg_r Sm x0 43) s1 _ hx0 (wg_ty Sm_ok 12 43 0 hx0 rfl (by decide)).2  h)
  · refine wr_aload_n (wg_da dt_X12_asks 49 rfl) rfl ?_
    refine wr_getR wf_X12_7 (wg_da dt_X12_asks 50 rfl) hx0 ?_
    refine wr_bipush (43 : Int32) (wg_da dt_X12_asks 51 rfl) (by decide) ?_
    refine wr_iload_n (wg_da dt_X12_asks 52 rfl) rfl ?_
    refine wr_iadd (wg_da dt_X12_asks 53 rfl) ?_
    refine wr_iald (wg_da dt_X12_asks 54 rfl) (wg_ty Sm_ok 12 1 0 hx0 rfl (by decide)).2 h (fun v2 h => ?_)
    exact wr_wk [true, true, true] (g_X12_asks_88 l E  x0 x1 x2 v2 (3 : Int32) (wg_r Sm x0 43) s1 _ hx0 (wg_ty Sm_ok 12 43 0 hx0 rfl (by decide)).2  h)
set_option maxRecDepth 20000 in
theorem g_X12_asks_43 (l : Launch) (E : wg_E)  (x0 : Nat) (x1 : Int32) (x2 : Int32) (t0 : Int32) (t1 : Int32) (t2 : Nat) (σ : wg_M) (z : Int32 × wg_M) (hx0 : wg_t Sm x0 = 14) (ht2 : wg_t Sm t2 = 0) (h : f_X12_asks_43  x0 x1 x2 t0 t1 t2 σ = some z) : wg_G l E Sm "WornWigsModel" cX12_asks 3 none rm_X12_asks none z.2 43 [some (.ref x0), some (.int x1), some (.int x2)] [.int t0, .int t1, .ref t2] σ := by
  refine wr_iast (wg_da dt_X12_asks 27 rfl) ht2 h (fun s1 h => ?_)
  refine wr_aload_n (wg_da dt_X12_asks 28 rfl) rfl ?_
  refine wr_getR wf_X12_77 (wg_da dt_X12_asks 29 rfl) hx0 ?_
  refine wr_iconst (2 : Int32) (wg_da dt_X12_asks 30 rfl) (by decide) ?_
  refine wr_iload_n (wg_da dt_X12_asks 31 rfl) rfl ?_
  refine wr_iconst (-1 : Int32) (wg_da dt_X12_asks 32 rfl) (by decide) ?_
  refine wr_icmp_ne 58 (wg_da dt_X12_asks 33 rfl) (by decide) h (fun h => ?_) (fun h => ?_)
  · refine wr_iconst (0 : Int32) (wg_da dt_X12_asks 34 rfl) (by decide) ?_
    refine wr_goto 64 (wg_da dt_X12_asks 35 rfl) (by decide) ?_
    exact wr_wk [true, true, true] (g_X12_asks_64 l E  x0 x1 x2 (0 : Int32) (2 : Int32) (wg_r Sm x0 43) s1 _ hx0 (wg_ty Sm_ok 12 43 0 hx0 rfl (by decide)).2  h)
  · refine wr_aload_n (wg_da dt_X12_asks 36 rfl) rfl ?_
    refine wr_getR wf_X12_19 (wg_da dt_X12_asks 37 rfl) hx0 ?_
    refine wr_iload_n (wg_da dt_X12_asks 38 rfl) rfl ?_
    refine wr_iald (wg_da dt_X12_asks 39 rfl) (wg_ty Sm_ok 12 9 0 hx0 rfl (by decide)).2 h (fun v2 h => ?_)
    exact wr_wk [true, true, true] (g_X12_asks_64 l E  x0 x1 x2 v2 (2 : Int32) (wg_r Sm x0 43) s1 _ hx0 (wg_ty Sm_ok 12 43 0 hx0 rfl (by decide)).2  h)
set_option maxRecDepth 20000 in
theorem g_X12_asks_22 (l : Launch) (E : wg_E)  (x0 : Nat) (x1 : Int32) (x2 : Int32) (t0 : Int32) (t1 : Int32) (t2 : Nat) (σ : wg_M) (z : Int32 × wg_M) (hx0 : wg_t Sm x0 = 14) (ht2 : wg_t Sm t2 = 0) (h : f_X12_asks_22  x0 x1 x2 t0 t1 t2 σ = some z) : wg_G l E Sm "WornWigsModel" cX12_asks 3 none rm_X12_asks none z.2 22 [some (.ref x0), some (.int x1), some (.int x2)] [.int t0, .int t1, .ref t2] σ := by
  refine wr_iast (wg_da dt_X12_asks 14 rfl) ht2 h (fun s1 h => ?_)
  refine wr_aload_n (wg_da dt_X12_asks 15 rfl) rfl ?_
  refine wr_getR wf_X12_77 (wg_da dt_X12_asks 16 rfl) hx0 ?_
  refine wr_iconst (1 : Int32) (wg_da dt_X12_asks 17 rfl) (by decide) ?_
  refine wr_iload_n (wg_da dt_X12_asks 18 rfl) rfl ?_
  refine wr_iconst (-1 : Int32) (wg_da dt_X12_asks 19 rfl) (by decide) ?_
  refine wr_icmp_ne 37 (wg_da dt_X12_asks 20 rfl) (by decide) h (fun h => ?_) (fun h => ?_)
  · refine wr_iconst (0 : Int32) (wg_da dt_X12_asks 21 rfl) (by decide) ?_
    refine wr_goto 43 (wg_da dt_X12_asks 22 rfl) (by decide) ?_
    exact wr_wk [true, true, true] (g_X12_asks_43 l E  x0 x1 x2 (0 : Int32) (1 : Int32) (wg_r Sm x0 43) s1 _ hx0 (wg_ty Sm_ok 12 43 0 hx0 rfl (by decide)).2  h)
  · refine wr_aload_n (wg_da dt_X12_asks 23 rfl) rfl ?_
    refine wr_getR wf_X12_22 (wg_da dt_X12_asks 24 rfl) hx0 ?_
    refine wr_iload_n (wg_da dt_X12_asks 25 rfl) rfl ?_
    refine wr_iald (wg_da dt_X12_asks 26 rfl) (wg_ty Sm_ok 12 10 0 hx0 rfl (by decide)).2 h (fun v2 h => ?_)
    exact wr_wk [true, true, true] (g_X12_asks_43 l E  x0 x1 x2 v2 (1 : Int32) (wg_r Sm x0 43) s1 _ hx0 (wg_ty Sm_ok 12 43 0 hx0 rfl (by decide)).2  h)
set_option maxRecDepth 20000 in
theorem g_X12_asks_e (l : Launch) (E : wg_E)  (x0 : Nat) (x1 : Int32) (x2 : Int32) (σ : wg_M) (z : Int32 × wg_M) (hx0 : wg_t Sm x0 = 14) (h : f_X12_asks  x0 x1 x2 σ = some z) : wg_G l E Sm "WornWigsModel" cX12_asks 3 none rm_X12_asks none z.2 0 [some (.ref x0), some (.int x1), some (.int x2)] [] σ := by
  refine wr_aload_n (wg_da dt_X12_asks 0 rfl) rfl ?_
  refine wr_getR wf_X12_77 (wg_da dt_X12_asks 1 rfl) hx0 ?_
  refine wr_iconst (0 : Int32) (wg_da dt_X12_asks 2 rfl) (by decide) ?_
  refine wr_iload_n (wg_da dt_X12_asks 3 rfl) rfl ?_
  refine wr_iconst (-1 : Int32) (wg_da dt_X12_asks 4 rfl) (by decide) ?_
  refine wr_icmp_ne 14 (wg_da dt_X12_asks 5 rfl) (by decide) h (fun h => ?_) (fun h => ?_)
  · refine wr_iconst (0 : Int32) (wg_da dt_X12_asks 6 rfl) (by decide) ?_
    refine wr_goto 22 (wg_da dt_X12_asks 7 rfl) (by decide) ?_
    exact wr_wk [true, true, true] (g_X12_asks_22 l E  x0 x1 x2 (0 : Int32) (0 : Int32) (wg_r Sm x0 43) σ _ hx0 (wg_ty Sm_ok 12 43 0 hx0 rfl (by decide)).2  h)
  · refine wr_aload_n (wg_da dt_X12_asks 8 rfl) rfl ?_
    refine wr_getR wf_X12_7 (wg_da dt_X12_asks 9 rfl) hx0 ?_
    refine wr_iconst (3 : Int32) (wg_da dt_X12_asks 10 rfl) (by decide) ?_
    refine wr_iload_n (wg_da dt_X12_asks 11 rfl) rfl ?_
    refine wr_iadd (wg_da dt_X12_asks 12 rfl) ?_
    refine wr_iald (wg_da dt_X12_asks 13 rfl) (wg_ty Sm_ok 12 1 0 hx0 rfl (by decide)).2 h (fun v1 h => ?_)
    exact wr_wk [true, true, true] (g_X12_asks_22 l E  x0 x1 x2 v1 (0 : Int32) (wg_r Sm x0 43) σ _ hx0 (wg_ty Sm_ok 12 43 0 hx0 rfl (by decide)).2  h)
theorem m_X12_asks (l : Launch) (E : wg_E) (x0 : Nat) (x1 : Int32) (x2 : Int32) (hx0 : wg_t Sm x0 = 14) (σ : wg_M) (q : Int32 × wg_M) (h : f_X12_asks x0 x1 x2 σ = some q) : wg_MG l E Sm yX12_asks cX12_asks 3 none rm_X12_asks [.ref x0, .int x1, .int x2] σ none q.2 :=
  wg_met [.ref x0, .int x1, .int x2] (plainFor_of_name (by decide)) (Nat.le_of_ble_eq_true rfl) (g_X12_asks_e l E x0 x1 x2 σ q hx0 h)
abbrev rm_X12_lawTells : Room := { frames := 3, cells := 0, slots := 0, locals := 70 }
def tb_X12_lawTells : List (Nat × Instr × Nat) := [(0, .aload_n 0, 1), (1, .iload_n 1, 1), (2, .invokevirtual 333, 3), (5, .istore 4, 2), (7, .aload_n 0, 1), (8, .iload 4, 2), (10, .iconst (-1), 1), (11, .if_icmp .ne 7, 3), (14, .iload_n 2, 1), (15, .goto 22, 3), (18, .aload_n 0, 1), (19, .iconst 0, 1), (20, .aload_n 0, 1), (21, .getfield 46, 3), (24, .iload 4, 2), (26, .iaload, 1), (27, .aload_n 0, 1), (28, .getfield 49, 3), (31, .iload 4, 2), (33, .iaload, 1), (34, .invokevirtual 330, 3), (37, .iconst 0, 1), (38, .iload_n 3, 1), (39, .invokevirtual 336, 3), (42, .ireturn, 1)]
theorem dt_X12_lawTells : wg_dc cX12_lawTells tb_X12_lawTells := by unfold wg_dc; decide +kernel
def f_X12_lawTells_37  (x3 : Int32) (t0 : Int32) (t1 : Nat) (σ : wg_M) : Option (Int32 × wg_M) := wg_bd (f_X12_held t1 t0 (0 : Int32) x3 σ) (fun v1 s2 => some (v1, s2))
def f_X12_lawTells  (x0 : Nat) (x1 : Int32) (x2 : Int32) (x3 : Int32) (σ : wg_M) : Option (Int32 × wg_M) := wg_bd (f_X12_lineOf x0 x1 σ) (fun v1 s2 => if v1 = (-1 : Int32) then (f_X12_lawTells_37  x3 x2 x0 s2) else (wg_ga (wg_n Sm (wg_r Sm x0 23)) (s2 (wg_r Sm x0 23)) v1 (fun v3 => wg_ga (wg_n Sm (wg_r Sm x0 24)) (s2 (wg_r Sm x0 24)) v1 (fun v4 => wg_bd (f_X12_runs x0 (0 : Int32) v3 v4 s2) (fun v5 s6 => f_X12_lawTells_37  x3 v5 x0 s6)))))
set_option maxRecDepth 20000 in
theorem g_X12_lawTells_37 (l : Launch) (E : wg_E)  (x3 : Int32) (t0 : Int32) (t1 : Nat) (σ : wg_M) (z : Int32 × wg_M) (ht1 : wg_t Sm t1 = 14) (h : f_X12_lawTells_37  x3 t0 t1 σ = some z) : wg_G l E Sm "WornWigsModel" cX12_lawTells 5 (some .int) rm_X12_lawTells (some z.1) z.2 37 [none, none, none, some (.int x3), none] [.int t0, .ref t1] σ := by
  refine wr_iconst (0 : Int32) (wg_da dt_X12_lawTells 21 rfl) (by decide) ?_
  refine wr_iload_n (wg_da dt_X12_lawTells 22 rfl) rfl ?_
  refine wr_callVi [.int t0, .int (0 : Int32), .int x3] [] (wg_da dt_X12_lawTells 23 rfl) ⟨wq_8_106, wq_8_108, wq_p7_12⟩ ht1 ⟨rfl, by decide⟩ wy_X12_held (fun q hq => m_X12_held l E t1 t0 (0 : Int32) x3 ht1 _ q hq) rfl rfl (Nat.le_of_ble_eq_true rfl) ⟨rfl, rfl, by decide, by decide⟩ h (fun v1 s2 h => ?_)
  exact wr_iret (wg_da dt_X12_lawTells 24 rfl) h
set_option maxRecDepth 20000 in
theorem g_X12_lawTells_e (l : Launch) (E : wg_E)  (x0 : Nat) (x1 : Int32) (x2 : Int32) (x3 : Int32) (σ : wg_M) (z : Int32 × wg_M) (hx0 : wg_t Sm x0 = 14) (h : f_X12_lawTells  x0 x1 x2 x3 σ = some z) : wg_G l E Sm "WornWigsModel" cX12_lawTells 5 (some .int) rm_X12_lawTells (some z.1) z.2 0 [some (.ref x0), some (.int x1), some (.int x2), some (.int x3), none] [] σ := by
  refine wr_aload_n (wg_da dt_X12_lawTells 0 rfl) rfl ?_
  refine wr_iload_n (wg_da dt_X12_lawTells 1 rfl) rfl ?_
  refine wr_callVi [.int x1] [] (wg_da dt_X12_lawTells 2 rfl) ⟨wq_8_94, wq_8_96, wq_p7_9⟩ hx0 ⟨rfl, by decide⟩ wy_X12_lineOf (fun q hq => m_X12_lineOf l E x0 x1 hx0 _ q hq) rfl rfl (Nat.le_of_ble_eq_true rfl) ⟨rfl, rfl, by decide, by decide⟩ h (fun v1 s2 h => ?_)
  refine wr_istore (wg_da dt_X12_lawTells 3 rfl) (by decide) ?_
  refine wr_aload_n (wg_da dt_X12_lawTells 4 rfl) rfl ?_
  refine wr_iload (wg_da dt_X12_lawTells 5 rfl) rfl ?_
  refine wr_iconst (-1 : Int32) (wg_da dt_X12_lawTells 6 rfl) (by decide) ?_
  refine wr_icmp_ne 18 (wg_da dt_X12_lawTells 7 rfl) (by decide) h (fun h => ?_) (fun h => ?_)
  · refine wr_iload_n (wg_da dt_X12_lawTells 8 rfl) rfl ?_
    refine wr_goto 37 (wg_da dt_X12_lawTells 9 rfl) (by decide) ?_
    exact wr_wk [false, false, false, true, false] (g_X12_lawTells_37 l E  x3 x2 x0 s2 _ hx0  h)
  · refine wr_aload_n (wg_da dt_X12_lawTells 10 rfl) rfl ?_
    refine wr_iconst (0 : Int32) (wg_da dt_X12_lawTells 11 rfl) (by decide) ?_
    refine wr_aload_n (wg_da dt_X12_lawTells 12 rfl) rfl ?_
    refine wr_getR wf_X12_46 (wg_da dt_X12_lawTells 13 rfl) hx0 ?_
    refine wr_iload (wg_da dt_X12_lawTells 14 rfl) rfl ?_
    refine wr_iald (wg_da dt_X12_lawTells 15 rfl) (wg_ty Sm_ok 12 23 0 hx0 rfl (by decide)).2 h (fun v3 h => ?_)
    refine wr_aload_n (wg_da dt_X12_lawTells 16 rfl) rfl ?_
    refine wr_getR wf_X12_49 (wg_da dt_X12_lawTells 17 rfl) hx0 ?_
    refine wr_iload (wg_da dt_X12_lawTells 18 rfl) rfl ?_
    refine wr_iald (wg_da dt_X12_lawTells 19 rfl) (wg_ty Sm_ok 12 24 0 hx0 rfl (by decide)).2 h (fun v4 h => ?_)
    refine wr_callVi [.int (0 : Int32), .int v3, .int v4] [.ref x0] (wg_da dt_X12_lawTells 20 rfl) ⟨wq_8_98, wq_8_100, wq_p7_10⟩ hx0 ⟨rfl, by decide⟩ wy_X12_runs (fun q hq => m_X12_runs l E x0 (0 : Int32) v3 v4 hx0 _ q hq) rfl rfl (Nat.le_of_ble_eq_true rfl) ⟨rfl, rfl, by decide, by decide⟩ h (fun v5 s6 h => ?_)
    exact wr_wk [false, false, false, true, false] (g_X12_lawTells_37 l E  x3 v5 x0 s6 _ hx0  h)
theorem m_X12_lawTells (l : Launch) (E : wg_E) (x0 : Nat) (x1 : Int32) (x2 : Int32) (x3 : Int32) (hx0 : wg_t Sm x0 = 14) (σ : wg_M) (q : Int32 × wg_M) (h : f_X12_lawTells x0 x1 x2 x3 σ = some q) : wg_MG l E Sm yX12_lawTells cX12_lawTells 5 (some .int) rm_X12_lawTells [.ref x0, .int x1, .int x2, .int x3] σ (some q.1) q.2 :=
  wg_met [.ref x0, .int x1, .int x2, .int x3] (plainFor_of_name (by decide)) (Nat.le_of_ble_eq_true rfl) (g_X12_lawTells_e l E x0 x1 x2 x3 σ q hx0 h)
abbrev rm_X12_countsOf : Room := { frames := 4, cells := 0, slots := 0, locals := 94 }
def tb_X12_countsOf : List (Nat × Instr × Nat) := [(0, .aload_n 0, 1), (1, .iload_n 3, 1), (2, .iload_n 1, 1), (3, .invokevirtual 339, 3), (6, .aload_n 0, 1), (7, .getfield 77, 3), (10, .bipush 6, 2), (12, .aload_n 0, 1), (13, .getfield 7, 3), (16, .aload_n 0, 1), (17, .iload_n 1, 1), (18, .iload_n 2, 1), (19, .invokevirtual 138, 3), (22, .iaload, 1), (23, .iastore, 1), (24, .aload_n 0, 1), (25, .getfield 77, 3), (28, .bipush 7, 2), (30, .aload_n 0, 1), (31, .getfield 7, 3), (34, .aload_n 0, 1), (35, .iload_n 1, 1), (36, .iload_n 2, 1), (37, .invokevirtual 138, 3), (40, .iconst 2, 1), (41, .iadd, 1), (42, .iaload, 1), (43, .iastore, 1), (44, .aload_n 0, 1), (45, .iconst 0, 1), (46, .aload_n 0, 1), (47, .getfield 77, 3), (50, .bipush 7, 2), (52, .iaload, 1), (53, .bipush 99, 2), (55, .invokevirtual 342, 3), (58, .ireturn, 1)]
theorem dt_X12_countsOf : wg_dc cX12_countsOf tb_X12_countsOf := by unfold wg_dc; decide +kernel
def f_X12_countsOf  (x0 : Nat) (x1 : Int32) (x2 : Int32) (x3 : Int32) (σ : wg_M) : Option (Int32 × wg_M) := wg_bd (f_X12_asks x0 x3 x1 σ) (fun _ s1 => wg_bd (f_X12_ruleAt x0 x1 x2 s1) (fun v2 s3 => wg_ga (wg_n Sm (wg_r Sm x0 1)) (s3 (wg_r Sm x0 1)) v2 (fun v4 => wg_sa (wg_n Sm (wg_r Sm x0 43)) s3 (wg_r Sm x0 43) (6 : Int32) v4 (fun s5 => wg_bd (f_X12_ruleAt x0 x1 x2 s5) (fun v6 s7 => wg_ga (wg_n Sm (wg_r Sm x0 1)) (s7 (wg_r Sm x0 1)) (v6 + (2 : Int32)) (fun v8 => wg_sa (wg_n Sm (wg_r Sm x0 43)) s7 (wg_r Sm x0 43) (7 : Int32) v8 (fun s9 => wg_ga (wg_n Sm (wg_r Sm x0 43)) (s9 (wg_r Sm x0 43)) (7 : Int32) (fun v10 => wg_bd (f_X12_lawTells x0 (0 : Int32) v10 (99 : Int32) s9) (fun v11 s12 => some (v11, s12))))))))))
set_option maxRecDepth 20000 in
theorem g_X12_countsOf_e (l : Launch) (E : wg_E)  (x0 : Nat) (x1 : Int32) (x2 : Int32) (x3 : Int32) (σ : wg_M) (z : Int32 × wg_M) (hx0 : wg_t Sm x0 = 14) (h : f_X12_countsOf  x0 x1 x2 x3 σ = some z) : wg_G l E Sm "WornWigsModel" cX12_countsOf 4 (some .int) rm_X12_countsOf (some z.1) z.2 0 [some (.ref x0), some (.int x1), some (.int x2), some (.int x3)] [] σ := by
  refine wr_aload_n (wg_da dt_X12_countsOf 0 rfl) rfl ?_
  refine wr_iload_n (wg_da dt_X12_countsOf 1 rfl) rfl ?_
  refine wr_iload_n (wg_da dt_X12_countsOf 2 rfl) rfl ?_
  refine wr_callVv [.int x3, .int x1] [] (wg_da dt_X12_countsOf 3 rfl) ⟨wq_8_86, wq_8_88, wq_p7_7⟩ hx0 ⟨rfl, by decide⟩ wy_X12_asks (fun q hq => m_X12_asks l E x0 x3 x1 hx0 _ q hq) rfl rfl (Nat.le_of_ble_eq_true rfl) ⟨rfl, rfl, by decide, by decide⟩ h (fun _ s1 h => ?_)
  refine wr_aload_n (wg_da dt_X12_countsOf 4 rfl) rfl ?_
  refine wr_getR wf_X12_77 (wg_da dt_X12_countsOf 5 rfl) hx0 ?_
  refine wr_bipush (6 : Int32) (wg_da dt_X12_countsOf 6 rfl) (by decide) ?_
  refine wr_aload_n (wg_da dt_X12_countsOf 7 rfl) rfl ?_
  refine wr_getR wf_X12_7 (wg_da dt_X12_countsOf 8 rfl) hx0 ?_
  refine wr_aload_n (wg_da dt_X12_countsOf 9 rfl) rfl ?_
  refine wr_iload_n (wg_da dt_X12_countsOf 10 rfl) rfl ?_
  refine wr_iload_n (wg_da dt_X12_countsOf 11 rfl) rfl ?_
  refine wr_callVi [.int x1, .int x2] [.ref (wg_r Sm x0 1), .int (6 : Int32), .ref (wg_r Sm x0 43)] (wg_da dt_X12_countsOf 12 rfl) ⟨wq_7_106, wq_7_108, wq_p4_6⟩ hx0 ⟨rfl, by decide⟩ wy_X12_ruleAt (fun q hq => m_X12_ruleAt l E x0 x1 x2 hx0 _ q hq) rfl rfl (Nat.le_of_ble_eq_true rfl) ⟨rfl, rfl, by decide, by decide⟩ h (fun v2 s3 h => ?_)
  refine wr_iald (wg_da dt_X12_countsOf 13 rfl) (wg_ty Sm_ok 12 1 0 hx0 rfl (by decide)).2 h (fun v4 h => ?_)
  refine wr_iast (wg_da dt_X12_countsOf 14 rfl) (wg_ty Sm_ok 12 43 0 hx0 rfl (by decide)).2 h (fun s5 h => ?_)
  refine wr_aload_n (wg_da dt_X12_countsOf 15 rfl) rfl ?_
  refine wr_getR wf_X12_77 (wg_da dt_X12_countsOf 16 rfl) hx0 ?_
  refine wr_bipush (7 : Int32) (wg_da dt_X12_countsOf 17 rfl) (by decide) ?_
  refine wr_aload_n (wg_da dt_X12_countsOf 18 rfl) rfl ?_
  refine wr_getR wf_X12_7 (wg_da dt_X12_countsOf 19 rfl) hx0 ?_
  refine wr_aload_n (wg_da dt_X12_countsOf 20 rfl) rfl ?_
  refine wr_iload_n (wg_da dt_X12_countsOf 21 rfl) rfl ?_
  refine wr_iload_n (wg_da dt_X12_countsOf 22 rfl) rfl ?_
  refine wr_callVi [.int x1, .int x2] [.ref (wg_r Sm x0 1), .int (7 : Int32), .ref (wg_r Sm x0 43)] (wg_da dt_X12_countsOf 23 rfl) ⟨wq_7_106, wq_7_108, wq_p4_6⟩ hx0 ⟨rfl, by decide⟩ wy_X12_ruleAt (fun q hq => m_X12_ruleAt l E x0 x1 x2 hx0 _ q hq) rfl rfl (Nat.le_of_ble_eq_true rfl) ⟨rfl, rfl, by decide, by decide⟩ h (fun v6 s7 h => ?_)
  refine wr_iconst (2 : Int32) (wg_da dt_X12_countsOf 24 rfl) (by decide) ?_
  refine wr_iadd (wg_da dt_X12_countsOf 25 rfl) ?_
  refine wr_iald (wg_da dt_X12_countsOf 26 rfl) (wg_ty Sm_ok 12 1 0 hx0 rfl (by decide)).2 h (fun v8 h => ?_)
  refine wr_iast (wg_da dt_X12_countsOf 27 rfl) (wg_ty Sm_ok 12 43 0 hx0 rfl (by decide)).2 h (fun s9 h => ?_)
  refine wr_aload_n (wg_da dt_X12_countsOf 28 rfl) rfl ?_
  refine wr_iconst (0 : Int32) (wg_da dt_X12_countsOf 29 rfl) (by decide) ?_
  refine wr_aload_n (wg_da dt_X12_countsOf 30 rfl) rfl ?_
  refine wr_getR wf_X12_77 (wg_da dt_X12_countsOf 31 rfl) hx0 ?_
  refine wr_bipush (7 : Int32) (wg_da dt_X12_countsOf 32 rfl) (by decide) ?_
  refine wr_iald (wg_da dt_X12_countsOf 33 rfl) (wg_ty Sm_ok 12 43 0 hx0 rfl (by decide)).2 h (fun v10 h => ?_)
  refine wr_bipush (99 : Int32) (wg_da dt_X12_countsOf 34 rfl) (by decide) ?_
  refine wr_callVi [.int (0 : Int32), .int v10, .int (99 : Int32)] [] (wg_da dt_X12_countsOf 35 rfl) ⟨wq_8_90, wq_8_92, wq_p7_8⟩ hx0 ⟨rfl, by decide⟩ wy_X12_lawTells (fun q hq => m_X12_lawTells l E x0 (0 : Int32) v10 (99 : Int32) hx0 _ q hq) rfl rfl (Nat.le_of_ble_eq_true rfl) ⟨rfl, rfl, by decide, by decide⟩ h (fun v11 s12 h => ?_)
  exact wr_iret (wg_da dt_X12_countsOf 36 rfl) h
theorem m_X12_countsOf (l : Launch) (E : wg_E) (x0 : Nat) (x1 : Int32) (x2 : Int32) (x3 : Int32) (hx0 : wg_t Sm x0 = 14) (σ : wg_M) (q : Int32 × wg_M) (h : f_X12_countsOf x0 x1 x2 x3 σ = some q) : wg_MG l E Sm yX12_countsOf cX12_countsOf 4 (some .int) rm_X12_countsOf [.ref x0, .int x1, .int x2, .int x3] σ (some q.1) q.2 :=
  wg_met [.ref x0, .int x1, .int x2, .int x3] (plainFor_of_name (by decide)) (Nat.le_of_ble_eq_true rfl) (g_X12_countsOf_e l E x0 x1 x2 x3 σ q hx0 h)
abbrev rm_X12_mothOf : Room := { frames := 4, cells := 0, slots := 0, locals := 94 }
def tb_X12_mothOf : List (Nat × Instr × Nat) := [(0, .aload_n 0, 1), (1, .iconst (-1), 1), (2, .iload_n 1, 1), (3, .invokevirtual 339, 3), (6, .aload_n 0, 1), (7, .iconst 1, 1), (8, .iconst 1, 1), (9, .aload_n 0, 1), (10, .getfield 7, 3), (13, .bipush 51, 2), (15, .iload_n 1, 1), (16, .iadd, 1), (17, .iaload, 1), (18, .bipush 9, 2), (20, .idiv, 1), (21, .iadd, 1), (22, .bipush 99, 2), (24, .invokevirtual 342, 3), (27, .ireturn, 1)]
theorem dt_X12_mothOf : wg_dc cX12_mothOf tb_X12_mothOf := by unfold wg_dc; decide +kernel
def f_X12_mothOf  (x0 : Nat) (x1 : Int32) (σ : wg_M) : Option (Int32 × wg_M) := wg_bd (f_X12_asks x0 (-1 : Int32) x1 σ) (fun _ s1 => wg_ga (wg_n Sm (wg_r Sm x0 1)) (s1 (wg_r Sm x0 1)) ((51 : Int32) + x1) (fun v2 => wg_dv v2 (9 : Int32) (fun v3 => wg_bd (f_X12_lawTells x0 (1 : Int32) ((1 : Int32) + v3) (99 : Int32) s1) (fun v4 s5 => some (v4, s5)))))
set_option maxRecDepth 20000 in
theorem g_X12_mothOf_e (l : Launch) (E : wg_E)  (x0 : Nat) (x1 : Int32) (σ : wg_M) (z : Int32 × wg_M) (hx0 : wg_t Sm x0 = 14) (h : f_X12_mothOf  x0 x1 σ = some z) : wg_G l E Sm "WornWigsModel" cX12_mothOf 2 (some .int) rm_X12_mothOf (some z.1) z.2 0 [some (.ref x0), some (.int x1)] [] σ := by
  refine wr_aload_n (wg_da dt_X12_mothOf 0 rfl) rfl ?_
  refine wr_iconst (-1 : Int32) (wg_da dt_X12_mothOf 1 rfl) (by decide) ?_
  refine wr_iload_n (wg_da dt_X12_mothOf 2 rfl) rfl ?_
  refine wr_callVv [.int (-1 : Int32), .int x1] [] (wg_da dt_X12_mothOf 3 rfl) ⟨wq_8_86, wq_8_88, wq_p7_7⟩ hx0 ⟨rfl, by decide⟩ wy_X12_asks (fun q hq => m_X12_asks l E x0 (-1 : Int32) x1 hx0 _ q hq) rfl rfl (Nat.le_of_ble_eq_true rfl) ⟨rfl, rfl, by decide, by decide⟩ h (fun _ s1 h => ?_)
  refine wr_aload_n (wg_da dt_X12_mothOf 4 rfl) rfl ?_
  refine wr_iconst (1 : Int32) (wg_da dt_X12_mothOf 5 rfl) (by decide) ?_
  refine wr_iconst (1 : Int32) (wg_da dt_X12_mothOf 6 rfl) (by decide) ?_
  refine wr_aload_n (wg_da dt_X12_mothOf 7 rfl) rfl ?_
  refine wr_getR wf_X12_7 (wg_da dt_X12_mothOf 8 rfl) hx0 ?_
  refine wr_bipush (51 : Int32) (wg_da dt_X12_mothOf 9 rfl) (by decide) ?_
  refine wr_iload_n (wg_da dt_X12_mothOf 10 rfl) rfl ?_
  refine wr_iadd (wg_da dt_X12_mothOf 11 rfl) ?_
  refine wr_iald (wg_da dt_X12_mothOf 12 rfl) (wg_ty Sm_ok 12 1 0 hx0 rfl (by decide)).2 h (fun v2 h => ?_)
  refine wr_bipush (9 : Int32) (wg_da dt_X12_mothOf 13 rfl) (by decide) ?_
  refine wr_idiv (wg_da dt_X12_mothOf 14 rfl) h (fun v3 h => ?_)
  refine wr_iadd (wg_da dt_X12_mothOf 15 rfl) ?_
  refine wr_bipush (99 : Int32) (wg_da dt_X12_mothOf 16 rfl) (by decide) ?_
  refine wr_callVi [.int (1 : Int32), .int ((1 : Int32) + v3), .int (99 : Int32)] [] (wg_da dt_X12_mothOf 17 rfl) ⟨wq_8_90, wq_8_92, wq_p7_8⟩ hx0 ⟨rfl, by decide⟩ wy_X12_lawTells (fun q hq => m_X12_lawTells l E x0 (1 : Int32) ((1 : Int32) + v3) (99 : Int32) hx0 _ q hq) rfl rfl (Nat.le_of_ble_eq_true rfl) ⟨rfl, rfl, by decide, by decide⟩ h (fun v4 s5 h => ?_)
  exact wr_iret (wg_da dt_X12_mothOf 18 rfl) h
theorem m_X12_mothOf (l : Launch) (E : wg_E) (x0 : Nat) (x1 : Int32) (hx0 : wg_t Sm x0 = 14) (σ : wg_M) (q : Int32 × wg_M) (h : f_X12_mothOf x0 x1 σ = some q) : wg_MG l E Sm yX12_mothOf cX12_mothOf 2 (some .int) rm_X12_mothOf [.ref x0, .int x1] σ (some q.1) q.2 :=
  wg_met [.ref x0, .int x1] (plainFor_of_name (by decide)) (Nat.le_of_ble_eq_true rfl) (g_X12_mothOf_e l E x0 x1 σ q hx0 h)
abbrev rm_X12_diesOf : Room := { frames := 4, cells := 0, slots := 0, locals := 94 }
def tb_X12_diesOf : List (Nat × Instr × Nat) := [(0, .aload_n 0, 1), (1, .iload_n 1, 1), (2, .aload_n 0, 1), (3, .iload_n 1, 1), (4, .invokevirtual 134, 3), (7, .invokevirtual 339, 3), (10, .aload_n 0, 1), (11, .iconst 2, 1), (12, .bipush 9, 2), (14, .aload_n 0, 1), (15, .iconst 0, 1), (16, .aload_n 0, 1), (17, .getfield 7, 3), (20, .iconst 3, 1), (21, .iload_n 1, 1), (22, .iadd, 1), (23, .iaload, 1), (24, .bipush 60, 2), (26, .isub, 1), (27, .invokevirtual 345, 3), (30, .imul, 1), (31, .sipush 1000, 3), (34, .invokevirtual 342, 3), (37, .ireturn, 1)]
theorem dt_X12_diesOf : wg_dc cX12_diesOf tb_X12_diesOf := by unfold wg_dc; decide +kernel
def f_X12_diesOf  (x0 : Nat) (x1 : Int32) (σ : wg_M) : Option (Int32 × wg_M) := wg_bd (f_X12_wigOf x0 x1 σ) (fun v1 s2 => wg_bd (f_X12_asks x0 x1 v1 s2) (fun _ s3 => wg_ga (wg_n Sm (wg_r Sm x0 1)) (s3 (wg_r Sm x0 1)) ((3 : Int32) + x1) (fun v4 => wg_bd (f_X12_greater x0 (0 : Int32) (v4 - (60 : Int32)) s3) (fun v5 s6 => wg_bd (f_X12_lawTells x0 (2 : Int32) ((9 : Int32) * v5) (1000 : Int32) s6) (fun v7 s8 => some (v7, s8))))))
set_option maxRecDepth 20000 in
theorem g_X12_diesOf_e (l : Launch) (E : wg_E)  (x0 : Nat) (x1 : Int32) (σ : wg_M) (z : Int32 × wg_M) (hx0 : wg_t Sm x0 = 14) (h : f_X12_diesOf  x0 x1 σ = some z) : wg_G l E Sm "WornWigsModel" cX12_diesOf 2 (some .int) rm_X12_diesOf (some z.1) z.2 0 [some (.ref x0), some (.int x1)] [] σ := by
  refine wr_aload_n (wg_da dt_X12_diesOf 0 rfl) rfl ?_
  refine wr_iload_n (wg_da dt_X12_diesOf 1 rfl) rfl ?_
  refine wr_aload_n (wg_da dt_X12_diesOf 2 rfl) rfl ?_
  refine wr_iload_n (wg_da dt_X12_diesOf 3 rfl) rfl ?_
  refine wr_callVi [.int x1] [.int x1, .ref x0] (wg_da dt_X12_diesOf 4 rfl) ⟨wq_8_78, wq_8_80, wq_p7_5⟩ hx0 ⟨rfl, by decide⟩ wy_X12_wigOf (fun q hq => m_X12_wigOf l E x0 x1 hx0 _ q hq) rfl rfl (Nat.le_of_ble_eq_true rfl) ⟨rfl, rfl, by decide, by decide⟩ h (fun v1 s2 h => ?_)
  refine wr_callVv [.int x1, .int v1] [] (wg_da dt_X12_diesOf 5 rfl) ⟨wq_8_86, wq_8_88, wq_p7_7⟩ hx0 ⟨rfl, by decide⟩ wy_X12_asks (fun q hq => m_X12_asks l E x0 x1 v1 hx0 _ q hq) rfl rfl (Nat.le_of_ble_eq_true rfl) ⟨rfl, rfl, by decide, by decide⟩ h (fun _ s3 h => ?_)
  refine wr_aload_n (wg_da dt_X12_diesOf 6 rfl) rfl ?_
  refine wr_iconst (2 : Int32) (wg_da dt_X12_diesOf 7 rfl) (by decide) ?_
  refine wr_bipush (9 : Int32) (wg_da dt_X12_diesOf 8 rfl) (by decide) ?_
  refine wr_aload_n (wg_da dt_X12_diesOf 9 rfl) rfl ?_
  refine wr_iconst (0 : Int32) (wg_da dt_X12_diesOf 10 rfl) (by decide) ?_
  refine wr_aload_n (wg_da dt_X12_diesOf 11 rfl) rfl ?_
  refine wr_getR wf_X12_7 (wg_da dt_X12_diesOf 12 rfl) hx0 ?_
  refine wr_iconst (3 : Int32) (wg_da dt_X12_diesOf 13 rfl) (by decide) ?_
  refine wr_iload_n (wg_da dt_X12_diesOf 14 rfl) rfl ?_
  refine wr_iadd (wg_da dt_X12_diesOf 15 rfl) ?_
  refine wr_iald (wg_da dt_X12_diesOf 16 rfl) (wg_ty Sm_ok 12 1 0 hx0 rfl (by decide)).2 h (fun v4 h => ?_)
  refine wr_bipush (60 : Int32) (wg_da dt_X12_diesOf 17 rfl) (by decide) ?_
  refine wr_isub (wg_da dt_X12_diesOf 18 rfl) ?_
  refine wr_callVi [.int (0 : Int32), .int (v4 - (60 : Int32))] [.int (9 : Int32), .int (2 : Int32), .ref x0] (wg_da dt_X12_diesOf 19 rfl) ⟨wq_8_162, wq_8_164, wq_p8_9⟩ hx0 ⟨rfl, by decide⟩ wy_X12_greater (fun q hq => m_X12_greater l E x0 (0 : Int32) (v4 - (60 : Int32)) hx0 _ q hq) rfl rfl (Nat.le_of_ble_eq_true rfl) ⟨rfl, rfl, by decide, by decide⟩ h (fun v5 s6 h => ?_)
  refine wr_imul (wg_da dt_X12_diesOf 20 rfl) ?_
  refine wr_sipush (1000 : Int32) (wg_da dt_X12_diesOf 21 rfl) (by decide) ?_
  refine wr_callVi [.int (2 : Int32), .int ((9 : Int32) * v5), .int (1000 : Int32)] [] (wg_da dt_X12_diesOf 22 rfl) ⟨wq_8_90, wq_8_92, wq_p7_8⟩ hx0 ⟨rfl, by decide⟩ wy_X12_lawTells (fun q hq => m_X12_lawTells l E x0 (2 : Int32) ((9 : Int32) * v5) (1000 : Int32) hx0 _ q hq) rfl rfl (Nat.le_of_ble_eq_true rfl) ⟨rfl, rfl, by decide, by decide⟩ h (fun v7 s8 h => ?_)
  exact wr_iret (wg_da dt_X12_diesOf 23 rfl) h
theorem m_X12_diesOf (l : Launch) (E : wg_E) (x0 : Nat) (x1 : Int32) (hx0 : wg_t Sm x0 = 14) (σ : wg_M) (q : Int32 × wg_M) (h : f_X12_diesOf x0 x1 σ = some q) : wg_MG l E Sm yX12_diesOf cX12_diesOf 2 (some .int) rm_X12_diesOf [.ref x0, .int x1] σ (some q.1) q.2 :=
  wg_met [.ref x0, .int x1] (plainFor_of_name (by decide)) (Nat.le_of_ble_eq_true rfl) (g_X12_diesOf_e l E x0 x1 σ q hx0 h)
abbrev rm_X12_notes : Room := { frames := 0, cells := 0, slots := 0, locals := 0 }
def tb_X12_notes : List (Nat × Instr × Nat) := [(0, .aload_n 0, 1), (1, .getfield 119, 3), (4, .ifCond .ne 15, 3), (7, .aload_n 0, 1), (8, .getfield 7, 3), (11, .iconst 2, 1), (12, .iaload, 1), (13, .sipush 150, 3), (16, .if_icmp .ne 4, 3), (19, .return_, 1), (20, .iconst 4, 1), (21, .aload_n 0, 1), (22, .getfield 7, 3), (25, .iconst 2, 1), (26, .iaload, 1), (27, .imul, 1), (28, .istore 4, 2), (30, .aload_n 0, 1), (31, .getfield 31, 3), (34, .iload 4, 2), (36, .aload_n 0, 1), (37, .getfield 7, 3), (40, .iconst 0, 1), (41, .iaload, 1), (42, .iastore, 1), (43, .aload_n 0, 1), (44, .getfield 31, 3), (47, .iload 4, 2), (49, .iconst 1, 1), (50, .iadd, 1), (51, .iload_n 1, 1), (52, .iastore, 1), (53, .aload_n 0, 1), (54, .getfield 31, 3), (57, .iload 4, 2), (59, .iconst 2, 1), (60, .iadd, 1), (61, .iload_n 2, 1), (62, .iastore, 1), (63, .aload_n 0, 1), (64, .getfield 31, 3), (67, .iload 4, 2), (69, .iconst 3, 1), (70, .iadd, 1), (71, .iload_n 3, 1), (72, .iastore, 1), (73, .aload_n 0, 1), (74, .getfield 7, 3), (77, .iconst 2, 1), (78, .aload_n 0, 1), (79, .getfield 7, 3), (82, .iconst 2, 1), (83, .iaload, 1), (84, .iconst 1, 1), (85, .iadd, 1), (86, .iastore, 1), (87, .return_, 1)]
theorem dt_X12_notes : wg_dc cX12_notes tb_X12_notes := by unfold wg_dc; decide +kernel
def f_X12_notes  (x0 : Nat) (x1 : Int32) (x2 : Int32) (x3 : Int32) (σ : wg_M) : Option (Int32 × wg_M) := if (σ x0 5) = 0 then (wg_ga (wg_n Sm (wg_r Sm x0 1)) (σ (wg_r Sm x0 1)) (2 : Int32) (fun v1 => if v1 = (150 : Int32) then (some (0, σ)) else (wg_ga (wg_n Sm (wg_r Sm x0 1)) (σ (wg_r Sm x0 1)) (2 : Int32) (fun v2 => wg_let ((4 : Int32) * v2) (fun v3 => wg_ga (wg_n Sm (wg_r Sm x0 1)) (σ (wg_r Sm x0 1)) (0 : Int32) (fun v4 => wg_sa (wg_n Sm (wg_r Sm x0 13)) σ (wg_r Sm x0 13) v3 v4 (fun s5 => wg_sa (wg_n Sm (wg_r Sm x0 13)) s5 (wg_r Sm x0 13) (v3 + (1 : Int32)) x1 (fun s6 => wg_sa (wg_n Sm (wg_r Sm x0 13)) s6 (wg_r Sm x0 13) (v3 + (2 : Int32)) x2 (fun s7 => wg_sa (wg_n Sm (wg_r Sm x0 13)) s7 (wg_r Sm x0 13) (v3 + (3 : Int32)) x3 (fun s8 => wg_ga (wg_n Sm (wg_r Sm x0 1)) (s8 (wg_r Sm x0 1)) (2 : Int32) (fun v9 => wg_sa (wg_n Sm (wg_r Sm x0 1)) s8 (wg_r Sm x0 1) (2 : Int32) (v9 + (1 : Int32)) (fun s10 => some (0, s10))))))))))))) else (some (0, σ))
set_option maxRecDepth 20000 in
theorem g_X12_notes_e (l : Launch) (E : wg_E)  (x0 : Nat) (x1 : Int32) (x2 : Int32) (x3 : Int32) (σ : wg_M) (z : Int32 × wg_M) (hx0 : wg_t Sm x0 = 14) (h : f_X12_notes  x0 x1 x2 x3 σ = some z) : wg_G l E Sm "WornWigsModel" cX12_notes 5 none rm_X12_notes none z.2 0 [some (.ref x0), some (.int x1), some (.int x2), some (.int x3), none] [] σ := by
  refine wr_aload_n (wg_da dt_X12_notes 0 rfl) rfl ?_
  refine wr_getI wf_X12_119 (wg_da dt_X12_notes 1 rfl) hx0 ?_
  refine wr_if_ne 19 (wg_da dt_X12_notes 2 rfl) (by decide) h (fun h => ?_) (fun h => ?_)
  · refine wr_aload_n (wg_da dt_X12_notes 3 rfl) rfl ?_
    refine wr_getR wf_X12_7 (wg_da dt_X12_notes 4 rfl) hx0 ?_
    refine wr_iconst (2 : Int32) (wg_da dt_X12_notes 5 rfl) (by decide) ?_
    refine wr_iald (wg_da dt_X12_notes 6 rfl) (wg_ty Sm_ok 12 1 0 hx0 rfl (by decide)).2 h (fun v1 h => ?_)
    refine wr_sipush (150 : Int32) (wg_da dt_X12_notes 7 rfl) (by decide) ?_
    refine wr_icmp_ne 20 (wg_da dt_X12_notes 8 rfl) (by decide) h (fun h => ?_) (fun h => ?_)
    · exact wr_vret (wg_da dt_X12_notes 9 rfl) h
    · refine wr_iconst (4 : Int32) (wg_da dt_X12_notes 10 rfl) (by decide) ?_
      refine wr_aload_n (wg_da dt_X12_notes 11 rfl) rfl ?_
      refine wr_getR wf_X12_7 (wg_da dt_X12_notes 12 rfl) hx0 ?_
      refine wr_iconst (2 : Int32) (wg_da dt_X12_notes 13 rfl) (by decide) ?_
      refine wr_iald (wg_da dt_X12_notes 14 rfl) (wg_ty Sm_ok 12 1 0 hx0 rfl (by decide)).2 h (fun v2 h => ?_)
      refine wr_imul (wg_da dt_X12_notes 15 rfl) ?_
      refine wr_let h (fun v3 h => ?_)
      refine wr_istore (wg_da dt_X12_notes 16 rfl) (by decide) ?_
      refine wr_aload_n (wg_da dt_X12_notes 17 rfl) rfl ?_
      refine wr_getR wf_X12_31 (wg_da dt_X12_notes 18 rfl) hx0 ?_
      refine wr_iload (wg_da dt_X12_notes 19 rfl) rfl ?_
      refine wr_aload_n (wg_da dt_X12_notes 20 rfl) rfl ?_
      refine wr_getR wf_X12_7 (wg_da dt_X12_notes 21 rfl) hx0 ?_
      refine wr_iconst (0 : Int32) (wg_da dt_X12_notes 22 rfl) (by decide) ?_
      refine wr_iald (wg_da dt_X12_notes 23 rfl) (wg_ty Sm_ok 12 1 0 hx0 rfl (by decide)).2 h (fun v4 h => ?_)
      refine wr_iast (wg_da dt_X12_notes 24 rfl) (wg_ty Sm_ok 12 13 0 hx0 rfl (by decide)).2 h (fun s5 h => ?_)
      refine wr_aload_n (wg_da dt_X12_notes 25 rfl) rfl ?_
      refine wr_getR wf_X12_31 (wg_da dt_X12_notes 26 rfl) hx0 ?_
      refine wr_iload (wg_da dt_X12_notes 27 rfl) rfl ?_
      refine wr_iconst (1 : Int32) (wg_da dt_X12_notes 28 rfl) (by decide) ?_
      refine wr_iadd (wg_da dt_X12_notes 29 rfl) ?_
      refine wr_iload_n (wg_da dt_X12_notes 30 rfl) rfl ?_
      refine wr_iast (wg_da dt_X12_notes 31 rfl) (wg_ty Sm_ok 12 13 0 hx0 rfl (by decide)).2 h (fun s6 h => ?_)
      refine wr_aload_n (wg_da dt_X12_notes 32 rfl) rfl ?_
      refine wr_getR wf_X12_31 (wg_da dt_X12_notes 33 rfl) hx0 ?_
      refine wr_iload (wg_da dt_X12_notes 34 rfl) rfl ?_
      refine wr_iconst (2 : Int32) (wg_da dt_X12_notes 35 rfl) (by decide) ?_
      refine wr_iadd (wg_da dt_X12_notes 36 rfl) ?_
      refine wr_iload_n (wg_da dt_X12_notes 37 rfl) rfl ?_
      refine wr_iast (wg_da dt_X12_notes 38 rfl) (wg_ty Sm_ok 12 13 0 hx0 rfl (by decide)).2 h (fun s7 h => ?_)
      refine wr_aload_n (wg_da dt_X12_notes 39 rfl) rfl ?_
      refine wr_getR wf_X12_31 (wg_da dt_X12_notes 40 rfl) hx0 ?_
      refine wr_iload (wg_da dt_X12_notes 41 rfl) rfl ?_
      refine wr_iconst (3 : Int32) (wg_da dt_X12_notes 42 rfl) (by decide) ?_
      refine wr_iadd (wg_da dt_X12_notes 43 rfl) ?_
      refine wr_iload_n (wg_da dt_X12_notes 44 rfl) rfl ?_
      refine wr_iast (wg_da dt_X12_notes 45 rfl) (wg_ty Sm_ok 12 13 0 hx0 rfl (by decide)).2 h (fun s8 h => ?_)
      refine wr_aload_n (wg_da dt_X12_notes 46 rfl) rfl ?_
      refine wr_getR wf_X12_7 (wg_da dt_X12_notes 47 rfl) hx0 ?_
      refine wr_iconst (2 : Int32) (wg_da dt_X12_notes 48 rfl) (by decide) ?_
      refine wr_aload_n (wg_da dt_X12_notes 49 rfl) rfl ?_
      refine wr_getR wf_X12_7 (wg_da dt_X12_notes 50 rfl) hx0 ?_
      refine wr_iconst (2 : Int32) (wg_da dt_X12_notes 51 rfl) (by decide) ?_
      refine wr_iald (wg_da dt_X12_notes 52 rfl) (wg_ty Sm_ok 12 1 0 hx0 rfl (by decide)).2 h (fun v9 h => ?_)
      refine wr_iconst (1 : Int32) (wg_da dt_X12_notes 53 rfl) (by decide) ?_
      refine wr_iadd (wg_da dt_X12_notes 54 rfl) ?_
      refine wr_iast (wg_da dt_X12_notes 55 rfl) (wg_ty Sm_ok 12 1 0 hx0 rfl (by decide)).2 h (fun s10 h => ?_)
      exact wr_vret (wg_da dt_X12_notes 56 rfl) h
  · exact wr_vret (wg_da dt_X12_notes 9 rfl) h
theorem m_X12_notes (l : Launch) (E : wg_E) (x0 : Nat) (x1 : Int32) (x2 : Int32) (x3 : Int32) (hx0 : wg_t Sm x0 = 14) (σ : wg_M) (q : Int32 × wg_M) (h : f_X12_notes x0 x1 x2 x3 σ = some q) : wg_MG l E Sm yX12_notes cX12_notes 5 none rm_X12_notes [.ref x0, .int x1, .int x2, .int x3] σ none q.2 :=
  wg_met [.ref x0, .int x1, .int x2, .int x3] (plainFor_of_name (by decide)) (Nat.le_of_ble_eq_true rfl) (g_X12_notes_e l E x0 x1 x2 x3 σ q hx0 h)
abbrev rm_X12_verdictOf : Room := { frames := 5, cells := 0, slots := 0, locals := 117 }
def tb_X12_verdictOf : List (Nat × Instr × Nat) := [(0, .aload_n 0, 1), (1, .getfield 28, 3), (4, .iload_n 1, 1), (5, .iaload, 1), (6, .iconst 3, 1), (7, .aload_n 0, 1), (8, .getfield 22, 3), (11, .iload_n 2, 1), (12, .iaload, 1), (13, .imul, 1), (14, .iadd, 1), (15, .istore_n 3, 1), (16, .aload_n 0, 1), (17, .iload_n 2, 1), (18, .invokevirtual 134, 3), (21, .istore 4, 2), (23, .iconst 0, 1), (24, .istore 5, 2), (26, .iload 4, 2), (28, .iconst (-1), 1), (29, .if_icmp .eq 80, 3), (32, .iload 5, 2), (34, .aload_n 0, 1), (35, .getfield 7, 3), (38, .bipush 67, 2), (40, .iload 4, 2), (42, .iadd, 1), (43, .iaload, 1), (44, .if_icmp .ge 65, 3), (47, .aload_n 0, 1), (48, .getfield 7, 3), (51, .aload_n 0, 1), (52, .iload 4, 2), (54, .iload 5, 2), (56, .invokevirtual 138, 3), (59, .iaload, 1), (60, .aload_n 0, 1), (61, .getfield 25, 3), (64, .iload_n 1, 1), (65, .iaload, 1), (66, .if_icmp .ne 37, 3), (69, .iload_n 3, 1), (70, .aload_n 0, 1), (71, .aload_n 0, 1), (72, .getfield 7, 3), (75, .aload_n 0, 1), (76, .iload 4, 2), (78, .iload 5, 2), (80, .invokevirtual 138, 3), (83, .iconst 1, 1), (84, .iadd, 1), (85, .iaload, 1), (86, .aload_n 0, 1), (87, .iload 4, 2), (89, .iload 5, 2), (91, .iload_n 2, 1), (92, .invokevirtual 348, 3), (95, .imul, 1), (96, .bipush 9, 2), (98, .invokevirtual 351, 3), (101, .iadd, 1), (102, .istore_n 3, 1), (103, .iinc 5 1, 3), (106, .goto (-80), 3), (109, .aload_n 0, 1), (110, .iload_n 3, 1), (111, .sipush (-999), 3), (114, .sipush 999, 3), (117, .invokevirtual 336, 3), (120, .ireturn, 1)]
theorem dt_X12_verdictOf : wg_dc cX12_verdictOf tb_X12_verdictOf := by unfold wg_dc; decide +kernel
def f_X12_verdictOf_109  (x0 : Nat) (x3 : Int32) (σ : wg_M) : Option (Int32 × wg_M) := wg_bd (f_X12_held x0 x3 (-999 : Int32) (999 : Int32) σ) (fun v1 s2 => some (v1, s2))
def f_X12_verdictOf_103 (k26 : Nat → Int32 → Int32 → Int32 → Int32 → Int32 → wg_M → Option (Int32 × wg_M)) (x0 : Nat) (x1 : Int32) (x2 : Int32) (x3 : Int32) (x4 : Int32) (x5 : Int32) (σ : wg_M) : Option (Int32 × wg_M) := wg_let (x5 + (1 : Int32)) (fun v1 => k26 x0 x1 x2 x3 x4 v1 σ)
def f_X12_verdictOf_26  : Nat → Nat → Int32 → Int32 → Int32 → Int32 → Int32 → wg_M → Option (Int32 × wg_M)
  | 0, _, _, _, _, _, _, _ => none
  | n + 1, x0, x1, x2, x3, x4, x5, σ => if x4 = (-1 : Int32) then (f_X12_verdictOf_109  x0 x3 σ) else (wg_ga (wg_n Sm (wg_r Sm x0 1)) (σ (wg_r Sm x0 1)) ((67 : Int32) + x4) (fun v1 => if v1 ≤ x5 then (f_X12_verdictOf_109  x0 x3 σ) else (wg_bd (f_X12_ruleAt x0 x4 x5 σ) (fun v2 s3 => wg_ga (wg_n Sm (wg_r Sm x0 1)) (s3 (wg_r Sm x0 1)) v2 (fun v4 => wg_ga (wg_n Sm (wg_r Sm x0 11)) (s3 (wg_r Sm x0 11)) x1 (fun v5 => if v4 = v5 then (wg_bd (f_X12_ruleAt x0 x4 x5 s3) (fun v6 s7 => wg_ga (wg_n Sm (wg_r Sm x0 1)) (s7 (wg_r Sm x0 1)) (v6 + (1 : Int32)) (fun v8 => wg_bd (f_X12_countsOf x0 x4 x5 x2 s7) (fun v9 s10 => wg_bd (f_X12_partOf x0 (v8 * v9) (9 : Int32) s10) (fun v11 s12 => wg_let (x3 + v11) (fun v13 => f_X12_verdictOf_103 (f_X12_verdictOf_26  n) x0 x1 x2 v13 x4 x5 s12)))))) else (f_X12_verdictOf_103 (f_X12_verdictOf_26  n) x0 x1 x2 x3 x4 x5 s3)))))))
def f_X12_verdictOf  (x0 : Nat) (x1 : Int32) (x2 : Int32) (σ : wg_M) : Option (Int32 × wg_M) := wg_ga (wg_n Sm (wg_r Sm x0 12)) (σ (wg_r Sm x0 12)) x1 (fun v1 => wg_ga (wg_n Sm (wg_r Sm x0 10)) (σ (wg_r Sm x0 10)) x2 (fun v2 => wg_let (v1 + ((3 : Int32) * v2)) (fun v3 => wg_bd (f_X12_wigOf x0 x2 σ) (fun v4 s5 => f_X12_verdictOf_26  wg_N x0 x1 x2 v3 v4 (0 : Int32) s5))))
set_option maxRecDepth 20000 in
theorem g_X12_verdictOf_109 (l : Launch) (E : wg_E)  (x0 : Nat) (x3 : Int32) (σ : wg_M) (z : Int32 × wg_M) (hx0 : wg_t Sm x0 = 14) (h : f_X12_verdictOf_109  x0 x3 σ = some z) : wg_G l E Sm "WornWigsModel" cX12_verdictOf 6 (some .int) rm_X12_verdictOf (some z.1) z.2 109 [some (.ref x0), none, none, some (.int x3), none, none] [] σ := by
  refine wr_aload_n (wg_da dt_X12_verdictOf 64 rfl) rfl ?_
  refine wr_iload_n (wg_da dt_X12_verdictOf 65 rfl) rfl ?_
  refine wr_sipush (-999 : Int32) (wg_da dt_X12_verdictOf 66 rfl) (by decide) ?_
  refine wr_sipush (999 : Int32) (wg_da dt_X12_verdictOf 67 rfl) (by decide) ?_
  refine wr_callVi [.int x3, .int (-999 : Int32), .int (999 : Int32)] [] (wg_da dt_X12_verdictOf 68 rfl) ⟨wq_8_106, wq_8_108, wq_p7_12⟩ hx0 ⟨rfl, by decide⟩ wy_X12_held (fun q hq => m_X12_held l E x0 x3 (-999 : Int32) (999 : Int32) hx0 _ q hq) rfl rfl (Nat.le_of_ble_eq_true rfl) ⟨rfl, rfl, by decide, by decide⟩ h (fun v1 s2 h => ?_)
  exact wr_iret (wg_da dt_X12_verdictOf 69 rfl) h
set_option maxRecDepth 20000 in
theorem g_X12_verdictOf_103 (l : Launch) (E : wg_E) (k26 : Nat → Int32 → Int32 → Int32 → Int32 → Int32 → wg_M → Option (Int32 × wg_M)) (x0 : Nat) (x1 : Int32) (x2 : Int32) (x3 : Int32) (x4 : Int32) (x5 : Int32) (σ : wg_M) (z : Int32 × wg_M) (hx0 : wg_t Sm x0 = 14) (hk26 : ∀ (x0 : Nat) (x1 : Int32) (x2 : Int32) (x3 : Int32) (x4 : Int32) (x5 : Int32) (σ : wg_M), wg_t Sm x0 = 14 → k26 x0 x1 x2 x3 x4 x5 σ = some z → wg_G l E Sm "WornWigsModel" cX12_verdictOf 6 (some .int) rm_X12_verdictOf (some z.1) z.2 26 [some (.ref x0), some (.int x1), some (.int x2), some (.int x3), some (.int x4), some (.int x5)] [] σ) (h : f_X12_verdictOf_103 k26 x0 x1 x2 x3 x4 x5 σ = some z) : wg_G l E Sm "WornWigsModel" cX12_verdictOf 6 (some .int) rm_X12_verdictOf (some z.1) z.2 103 [some (.ref x0), some (.int x1), some (.int x2), some (.int x3), some (.int x4), some (.int x5)] [] σ := by
  refine wr_iinc (c0 := (1 : Int32)) (wg_da dt_X12_verdictOf 62 rfl) rfl (by decide) (by decide) h (fun v1 h => ?_)
  refine wr_goto 26 (wg_da dt_X12_verdictOf 63 rfl) (by decide) ?_
  exact wr_wk [true, true, true, true, true, true] (hk26 x0 x1 x2 x3 x4 v1 σ hx0 h)
set_option maxRecDepth 20000 in
theorem g_X12_verdictOf_26 (l : Launch) (E : wg_E)  (z : Int32 × wg_M) : ∀ (n : Nat) (x0 : Nat) (x1 : Int32) (x2 : Int32) (x3 : Int32) (x4 : Int32) (x5 : Int32) (σ : wg_M) (hx0 : wg_t Sm x0 = 14) (h : f_X12_verdictOf_26  n x0 x1 x2 x3 x4 x5 σ = some z), wg_G l E Sm "WornWigsModel" cX12_verdictOf 6 (some .int) rm_X12_verdictOf (some z.1) z.2 26 [some (.ref x0), some (.int x1), some (.int x2), some (.int x3), some (.int x4), some (.int x5)] [] σ := by
  intro n
  induction n with
  | zero => intro x0 x1 x2 x3 x4 x5 σ hx0 h; cases h
  | succ n ih =>
    intro x0 x1 x2 x3 x4 x5 σ hx0 h
    refine wr_iload (wg_da dt_X12_verdictOf 18 rfl) rfl ?_
    refine wr_iconst (-1 : Int32) (wg_da dt_X12_verdictOf 19 rfl) (by decide) ?_
    refine wr_icmp_eq 109 (wg_da dt_X12_verdictOf 20 rfl) (by decide) h (fun h => ?_) (fun h => ?_)
    · exact wr_wk [true, false, false, true, false, false] (g_X12_verdictOf_109 l E  x0 x3 σ _ hx0  h)
    · refine wr_iload (wg_da dt_X12_verdictOf 21 rfl) rfl ?_
      refine wr_aload_n (wg_da dt_X12_verdictOf 22 rfl) rfl ?_
      refine wr_getR wf_X12_7 (wg_da dt_X12_verdictOf 23 rfl) hx0 ?_
      refine wr_bipush (67 : Int32) (wg_da dt_X12_verdictOf 24 rfl) (by decide) ?_
      refine wr_iload (wg_da dt_X12_verdictOf 25 rfl) rfl ?_
      refine wr_iadd (wg_da dt_X12_verdictOf 26 rfl) ?_
      refine wr_iald (wg_da dt_X12_verdictOf 27 rfl) (wg_ty Sm_ok 12 1 0 hx0 rfl (by decide)).2 h (fun v1 h => ?_)
      refine wr_icmp_ge 109 (wg_da dt_X12_verdictOf 28 rfl) (by decide) h (fun h => ?_) (fun h => ?_)
      · exact wr_wk [true, false, false, true, false, false] (g_X12_verdictOf_109 l E  x0 x3 σ _ hx0  h)
      · refine wr_aload_n (wg_da dt_X12_verdictOf 29 rfl) rfl ?_
        refine wr_getR wf_X12_7 (wg_da dt_X12_verdictOf 30 rfl) hx0 ?_
        refine wr_aload_n (wg_da dt_X12_verdictOf 31 rfl) rfl ?_
        refine wr_iload (wg_da dt_X12_verdictOf 32 rfl) rfl ?_
        refine wr_iload (wg_da dt_X12_verdictOf 33 rfl) rfl ?_
        refine wr_callVi [.int x4, .int x5] [.ref (wg_r Sm x0 1)] (wg_da dt_X12_verdictOf 34 rfl) ⟨wq_7_106, wq_7_108, wq_p4_6⟩ hx0 ⟨rfl, by decide⟩ wy_X12_ruleAt (fun q hq => m_X12_ruleAt l E x0 x4 x5 hx0 _ q hq) rfl rfl (Nat.le_of_ble_eq_true rfl) ⟨rfl, rfl, by decide, by decide⟩ h (fun v2 s3 h => ?_)
        refine wr_iald (wg_da dt_X12_verdictOf 35 rfl) (wg_ty Sm_ok 12 1 0 hx0 rfl (by decide)).2 h (fun v4 h => ?_)
        refine wr_aload_n (wg_da dt_X12_verdictOf 36 rfl) rfl ?_
        refine wr_getR wf_X12_25 (wg_da dt_X12_verdictOf 37 rfl) hx0 ?_
        refine wr_iload_n (wg_da dt_X12_verdictOf 38 rfl) rfl ?_
        refine wr_iald (wg_da dt_X12_verdictOf 39 rfl) (wg_ty Sm_ok 12 11 0 hx0 rfl (by decide)).2 h (fun v5 h => ?_)
        refine wr_icmp_ne 103 (wg_da dt_X12_verdictOf 40 rfl) (by decide) h (fun h => ?_) (fun h => ?_)
        · refine wr_iload_n (wg_da dt_X12_verdictOf 41 rfl) rfl ?_
          refine wr_aload_n (wg_da dt_X12_verdictOf 42 rfl) rfl ?_
          refine wr_aload_n (wg_da dt_X12_verdictOf 43 rfl) rfl ?_
          refine wr_getR wf_X12_7 (wg_da dt_X12_verdictOf 44 rfl) hx0 ?_
          refine wr_aload_n (wg_da dt_X12_verdictOf 45 rfl) rfl ?_
          refine wr_iload (wg_da dt_X12_verdictOf 46 rfl) rfl ?_
          refine wr_iload (wg_da dt_X12_verdictOf 47 rfl) rfl ?_
          refine wr_callVi [.int x4, .int x5] [.ref (wg_r Sm x0 1), .ref x0, .int x3] (wg_da dt_X12_verdictOf 48 rfl) ⟨wq_7_106, wq_7_108, wq_p4_6⟩ hx0 ⟨rfl, by decide⟩ wy_X12_ruleAt (fun q hq => m_X12_ruleAt l E x0 x4 x5 hx0 _ q hq) rfl rfl (Nat.le_of_ble_eq_true rfl) ⟨rfl, rfl, by decide, by decide⟩ h (fun v6 s7 h => ?_)
          refine wr_iconst (1 : Int32) (wg_da dt_X12_verdictOf 49 rfl) (by decide) ?_
          refine wr_iadd (wg_da dt_X12_verdictOf 50 rfl) ?_
          refine wr_iald (wg_da dt_X12_verdictOf 51 rfl) (wg_ty Sm_ok 12 1 0 hx0 rfl (by decide)).2 h (fun v8 h => ?_)
          refine wr_aload_n (wg_da dt_X12_verdictOf 52 rfl) rfl ?_
          refine wr_iload (wg_da dt_X12_verdictOf 53 rfl) rfl ?_
          refine wr_iload (wg_da dt_X12_verdictOf 54 rfl) rfl ?_
          refine wr_iload_n (wg_da dt_X12_verdictOf 55 rfl) rfl ?_
          refine wr_callVi [.int x4, .int x5, .int x2] [.int v8, .ref x0, .int x3] (wg_da dt_X12_verdictOf 56 rfl) ⟨wq_8_82, wq_8_84, wq_p7_6⟩ hx0 ⟨rfl, by decide⟩ wy_X12_countsOf (fun q hq => m_X12_countsOf l E x0 x4 x5 x2 hx0 _ q hq) rfl rfl (Nat.le_of_ble_eq_true rfl) ⟨rfl, rfl, by decide, by decide⟩ h (fun v9 s10 h => ?_)
          refine wr_imul (wg_da dt_X12_verdictOf 57 rfl) ?_
          refine wr_bipush (9 : Int32) (wg_da dt_X12_verdictOf 58 rfl) (by decide) ?_
          refine wr_callVi [.int (v8 * v9), .int (9 : Int32)] [.int x3] (wg_da dt_X12_verdictOf 59 rfl) ⟨wq_8_110, wq_8_112, wq_p7_13⟩ hx0 ⟨rfl, by decide⟩ wy_X12_partOf (fun q hq => m_X12_partOf l E x0 (v8 * v9) (9 : Int32) hx0 _ q hq) rfl rfl (Nat.le_of_ble_eq_true rfl) ⟨rfl, rfl, by decide, by decide⟩ h (fun v11 s12 h => ?_)
          refine wr_iadd (wg_da dt_X12_verdictOf 60 rfl) ?_
          refine wr_let h (fun v13 h => ?_)
          refine wr_istore_n (wg_da dt_X12_verdictOf 61 rfl) (by decide) ?_
          exact wr_wk [true, true, true, true, true, true] (g_X12_verdictOf_103 l E (f_X12_verdictOf_26  n) x0 x1 x2 v13 x4 x5 s12 _ hx0 (fun x0 x1 x2 x3 x4 x5 σ hx0 h => ih x0 x1 x2 x3 x4 x5 σ hx0 h) h)
        · exact wr_wk [true, true, true, true, true, true] (g_X12_verdictOf_103 l E (f_X12_verdictOf_26  n) x0 x1 x2 x3 x4 x5 s3 _ hx0 (fun x0 x1 x2 x3 x4 x5 σ hx0 h => ih x0 x1 x2 x3 x4 x5 σ hx0 h) h)
set_option maxRecDepth 20000 in
theorem g_X12_verdictOf_e (l : Launch) (E : wg_E)  (x0 : Nat) (x1 : Int32) (x2 : Int32) (σ : wg_M) (z : Int32 × wg_M) (hx0 : wg_t Sm x0 = 14) (h : f_X12_verdictOf  x0 x1 x2 σ = some z) : wg_G l E Sm "WornWigsModel" cX12_verdictOf 6 (some .int) rm_X12_verdictOf (some z.1) z.2 0 [some (.ref x0), some (.int x1), some (.int x2), none, none, none] [] σ := by
  refine wr_aload_n (wg_da dt_X12_verdictOf 0 rfl) rfl ?_
  refine wr_getR wf_X12_28 (wg_da dt_X12_verdictOf 1 rfl) hx0 ?_
  refine wr_iload_n (wg_da dt_X12_verdictOf 2 rfl) rfl ?_
  refine wr_iald (wg_da dt_X12_verdictOf 3 rfl) (wg_ty Sm_ok 12 12 0 hx0 rfl (by decide)).2 h (fun v1 h => ?_)
  refine wr_iconst (3 : Int32) (wg_da dt_X12_verdictOf 4 rfl) (by decide) ?_
  refine wr_aload_n (wg_da dt_X12_verdictOf 5 rfl) rfl ?_
  refine wr_getR wf_X12_22 (wg_da dt_X12_verdictOf 6 rfl) hx0 ?_
  refine wr_iload_n (wg_da dt_X12_verdictOf 7 rfl) rfl ?_
  refine wr_iald (wg_da dt_X12_verdictOf 8 rfl) (wg_ty Sm_ok 12 10 0 hx0 rfl (by decide)).2 h (fun v2 h => ?_)
  refine wr_imul (wg_da dt_X12_verdictOf 9 rfl) ?_
  refine wr_iadd (wg_da dt_X12_verdictOf 10 rfl) ?_
  refine wr_let h (fun v3 h => ?_)
  refine wr_istore_n (wg_da dt_X12_verdictOf 11 rfl) (by decide) ?_
  refine wr_aload_n (wg_da dt_X12_verdictOf 12 rfl) rfl ?_
  refine wr_iload_n (wg_da dt_X12_verdictOf 13 rfl) rfl ?_
  refine wr_callVi [.int x2] [] (wg_da dt_X12_verdictOf 14 rfl) ⟨wq_8_78, wq_8_80, wq_p7_5⟩ hx0 ⟨rfl, by decide⟩ wy_X12_wigOf (fun q hq => m_X12_wigOf l E x0 x2 hx0 _ q hq) rfl rfl (Nat.le_of_ble_eq_true rfl) ⟨rfl, rfl, by decide, by decide⟩ h (fun v4 s5 h => ?_)
  refine wr_istore (wg_da dt_X12_verdictOf 15 rfl) (by decide) ?_
  refine wr_iconst (0 : Int32) (wg_da dt_X12_verdictOf 16 rfl) (by decide) ?_
  refine wr_istore (wg_da dt_X12_verdictOf 17 rfl) (by decide) ?_
  exact wr_wk [true, true, true, true, true, true] (g_X12_verdictOf_26 l E  _  wg_N x0 x1 x2 v3 v4 (0 : Int32) s5 hx0 h)
theorem m_X12_verdictOf (l : Launch) (E : wg_E) (x0 : Nat) (x1 : Int32) (x2 : Int32) (hx0 : wg_t Sm x0 = 14) (σ : wg_M) (q : Int32 × wg_M) (h : f_X12_verdictOf x0 x1 x2 σ = some q) : wg_MG l E Sm yX12_verdictOf cX12_verdictOf 6 (some .int) rm_X12_verdictOf [.ref x0, .int x1, .int x2] σ (some q.1) q.2 :=
  wg_met [.ref x0, .int x1, .int x2] (plainFor_of_name (by decide)) (Nat.le_of_ble_eq_true rfl) (g_X12_verdictOf_e l E x0 x1 x2 σ q hx0 h)
abbrev rm_X12_lightest : Room := { frames := 1, cells := 0, slots := 0, locals := 22 }
def tb_X12_lightest : List (Nat × Instr × Nat) := [(0, .iconst 0, 1), (1, .istore_n 2, 1), (2, .iconst 1, 1), (3, .istore_n 3, 1), (4, .iload_n 3, 1), (5, .bipush 8, 2), (7, .if_icmp .ge 40, 3), (10, .aload_n 0, 1), (11, .getfield 7, 3), (14, .aload_n 0, 1), (15, .iload_n 1, 1), (16, .iload_n 3, 1), (17, .invokevirtual 138, 3), (20, .iconst 2, 1), (21, .iadd, 1), (22, .iaload, 1), (23, .aload_n 0, 1), (24, .getfield 7, 3), (27, .aload_n 0, 1), (28, .iload_n 1, 1), (29, .iload_n 2, 1), (30, .invokevirtual 138, 3), (33, .iconst 2, 1), (34, .iadd, 1), (35, .iaload, 1), (36, .if_icmp .ge 5, 3), (39, .iload_n 3, 1), (40, .istore_n 2, 1), (41, .iinc 3 1, 3), (44, .goto (-40), 3), (47, .iload_n 2, 1), (48, .ireturn, 1)]
theorem dt_X12_lightest : wg_dc cX12_lightest tb_X12_lightest := by unfold wg_dc; decide +kernel
def f_X12_lightest_41 (k4 : Nat → Int32 → Int32 → Int32 → wg_M → Option (Int32 × wg_M)) (x0 : Nat) (x1 : Int32) (x2 : Int32) (x3 : Int32) (σ : wg_M) : Option (Int32 × wg_M) := wg_let (x3 + (1 : Int32)) (fun v1 => k4 x0 x1 x2 v1 σ)
def f_X12_lightest_4  : Nat → Nat → Int32 → Int32 → Int32 → wg_M → Option (Int32 × wg_M)
  | 0, _, _, _, _, _ => none
  | n + 1, x0, x1, x2, x3, σ => if (8 : Int32) ≤ x3 then (some (x2, σ)) else (wg_bd (f_X12_ruleAt x0 x1 x3 σ) (fun v1 s2 => wg_ga (wg_n Sm (wg_r Sm x0 1)) (s2 (wg_r Sm x0 1)) (v1 + (2 : Int32)) (fun v3 => wg_bd (f_X12_ruleAt x0 x1 x2 s2) (fun v4 s5 => wg_ga (wg_n Sm (wg_r Sm x0 1)) (s5 (wg_r Sm x0 1)) (v4 + (2 : Int32)) (fun v6 => if v6 ≤ v3 then (f_X12_lightest_41 (f_X12_lightest_4  n) x0 x1 x2 x3 s5) else (f_X12_lightest_41 (f_X12_lightest_4  n) x0 x1 x3 x3 s5))))))
def f_X12_lightest  (x0 : Nat) (x1 : Int32) (σ : wg_M) : Option (Int32 × wg_M) := f_X12_lightest_4  wg_N x0 x1 (0 : Int32) (1 : Int32) σ
set_option maxRecDepth 20000 in
theorem g_X12_lightest_41 (l : Launch) (E : wg_E) (k4 : Nat → Int32 → Int32 → Int32 → wg_M → Option (Int32 × wg_M)) (x0 : Nat) (x1 : Int32) (x2 : Int32) (x3 : Int32) (σ : wg_M) (z : Int32 × wg_M) (hx0 : wg_t Sm x0 = 14) (hk4 : ∀ (x0 : Nat) (x1 : Int32) (x2 : Int32) (x3 : Int32) (σ : wg_M), wg_t Sm x0 = 14 → k4 x0 x1 x2 x3 σ = some z → wg_G l E Sm "WornWigsModel" cX12_lightest 4 (some .int) rm_X12_lightest (some z.1) z.2 4 [some (.ref x0), some (.int x1), some (.int x2), some (.int x3)] [] σ) (h : f_X12_lightest_41 k4 x0 x1 x2 x3 σ = some z) : wg_G l E Sm "WornWigsModel" cX12_lightest 4 (some .int) rm_X12_lightest (some z.1) z.2 41 [some (.ref x0), some (.int x1), some (.int x2), some (.int x3)] [] σ := by
  refine wr_iinc (c0 := (1 : Int32)) (wg_da dt_X12_lightest 28 rfl) rfl (by decide) (by decide) h (fun v1 h => ?_)
  refine wr_goto 4 (wg_da dt_X12_lightest 29 rfl) (by decide) ?_
  exact wr_wk [true, true, true, true] (hk4 x0 x1 x2 v1 σ hx0 h)
set_option maxRecDepth 20000 in
theorem g_X12_lightest_4 (l : Launch) (E : wg_E)  (z : Int32 × wg_M) : ∀ (n : Nat) (x0 : Nat) (x1 : Int32) (x2 : Int32) (x3 : Int32) (σ : wg_M) (hx0 : wg_t Sm x0 = 14) (h : f_X12_lightest_4  n x0 x1 x2 x3 σ = some z), wg_G l E Sm "WornWigsModel" cX12_lightest 4 (some .int) rm_X12_lightest (some z.1) z.2 4 [some (.ref x0), some (.int x1), some (.int x2), some (.int x3)] [] σ := by
  intro n
  induction n with
  | zero => intro x0 x1 x2 x3 σ hx0 h; cases h
  | succ n ih =>
    intro x0 x1 x2 x3 σ hx0 h
    refine wr_iload_n (wg_da dt_X12_lightest 4 rfl) rfl ?_
    refine wr_bipush (8 : Int32) (wg_da dt_X12_lightest 5 rfl) (by decide) ?_
    refine wr_icmp_ge 47 (wg_da dt_X12_lightest 6 rfl) (by decide) h (fun h => ?_) (fun h => ?_)
    · refine wr_iload_n (wg_da dt_X12_lightest 30 rfl) rfl ?_
      exact wr_iret (wg_da dt_X12_lightest 31 rfl) h
    · refine wr_aload_n (wg_da dt_X12_lightest 7 rfl) rfl ?_
      refine wr_getR wf_X12_7 (wg_da dt_X12_lightest 8 rfl) hx0 ?_
      refine wr_aload_n (wg_da dt_X12_lightest 9 rfl) rfl ?_
      refine wr_iload_n (wg_da dt_X12_lightest 10 rfl) rfl ?_
      refine wr_iload_n (wg_da dt_X12_lightest 11 rfl) rfl ?_
      refine wr_callVi [.int x1, .int x3] [.ref (wg_r Sm x0 1)] (wg_da dt_X12_lightest 12 rfl) ⟨wq_7_106, wq_7_108, wq_p4_6⟩ hx0 ⟨rfl, by decide⟩ wy_X12_ruleAt (fun q hq => m_X12_ruleAt l E x0 x1 x3 hx0 _ q hq) rfl rfl (Nat.le_of_ble_eq_true rfl) ⟨rfl, rfl, by decide, by decide⟩ h (fun v1 s2 h => ?_)
      refine wr_iconst (2 : Int32) (wg_da dt_X12_lightest 13 rfl) (by decide) ?_
      refine wr_iadd (wg_da dt_X12_lightest 14 rfl) ?_
      refine wr_iald (wg_da dt_X12_lightest 15 rfl) (wg_ty Sm_ok 12 1 0 hx0 rfl (by decide)).2 h (fun v3 h => ?_)
      refine wr_aload_n (wg_da dt_X12_lightest 16 rfl) rfl ?_
      refine wr_getR wf_X12_7 (wg_da dt_X12_lightest 17 rfl) hx0 ?_
      refine wr_aload_n (wg_da dt_X12_lightest 18 rfl) rfl ?_
      refine wr_iload_n (wg_da dt_X12_lightest 19 rfl) rfl ?_
      refine wr_iload_n (wg_da dt_X12_lightest 20 rfl) rfl ?_
      refine wr_callVi [.int x1, .int x2] [.ref (wg_r Sm x0 1), .int v3] (wg_da dt_X12_lightest 21 rfl) ⟨wq_7_106, wq_7_108, wq_p4_6⟩ hx0 ⟨rfl, by decide⟩ wy_X12_ruleAt (fun q hq => m_X12_ruleAt l E x0 x1 x2 hx0 _ q hq) rfl rfl (Nat.le_of_ble_eq_true rfl) ⟨rfl, rfl, by decide, by decide⟩ h (fun v4 s5 h => ?_)
      refine wr_iconst (2 : Int32) (wg_da dt_X12_lightest 22 rfl) (by decide) ?_
      refine wr_iadd (wg_da dt_X12_lightest 23 rfl) ?_
      refine wr_iald (wg_da dt_X12_lightest 24 rfl) (wg_ty Sm_ok 12 1 0 hx0 rfl (by decide)).2 h (fun v6 h => ?_)
      refine wr_icmp_ge 41 (wg_da dt_X12_lightest 25 rfl) (by decide) h (fun h => ?_) (fun h => ?_)
      · exact wr_wk [true, true, true, true] (g_X12_lightest_41 l E (f_X12_lightest_4  n) x0 x1 x2 x3 s5 _ hx0 (fun x0 x1 x2 x3 σ hx0 h => ih x0 x1 x2 x3 σ hx0 h) h)
      · refine wr_iload_n (wg_da dt_X12_lightest 26 rfl) rfl ?_
        refine wr_istore_n (wg_da dt_X12_lightest 27 rfl) (by decide) ?_
        exact wr_wk [true, true, true, true] (g_X12_lightest_41 l E (f_X12_lightest_4  n) x0 x1 x3 x3 s5 _ hx0 (fun x0 x1 x2 x3 σ hx0 h => ih x0 x1 x2 x3 σ hx0 h) h)
set_option maxRecDepth 20000 in
theorem g_X12_lightest_e (l : Launch) (E : wg_E)  (x0 : Nat) (x1 : Int32) (σ : wg_M) (z : Int32 × wg_M) (hx0 : wg_t Sm x0 = 14) (h : f_X12_lightest  x0 x1 σ = some z) : wg_G l E Sm "WornWigsModel" cX12_lightest 4 (some .int) rm_X12_lightest (some z.1) z.2 0 [some (.ref x0), some (.int x1), none, none] [] σ := by
  refine wr_iconst (0 : Int32) (wg_da dt_X12_lightest 0 rfl) (by decide) ?_
  refine wr_istore_n (wg_da dt_X12_lightest 1 rfl) (by decide) ?_
  refine wr_iconst (1 : Int32) (wg_da dt_X12_lightest 2 rfl) (by decide) ?_
  refine wr_istore_n (wg_da dt_X12_lightest 3 rfl) (by decide) ?_
  exact wr_wk [true, true, true, true] (g_X12_lightest_4 l E  _  wg_N x0 x1 (0 : Int32) (1 : Int32) σ hx0 h)
theorem m_X12_lightest (l : Launch) (E : wg_E) (x0 : Nat) (x1 : Int32) (hx0 : wg_t Sm x0 = 14) (σ : wg_M) (q : Int32 × wg_M) (h : f_X12_lightest x0 x1 σ = some q) : wg_MG l E Sm yX12_lightest cX12_lightest 4 (some .int) rm_X12_lightest [.ref x0, .int x1] σ (some q.1) q.2 :=
  wg_met [.ref x0, .int x1] (plainFor_of_name (by decide)) (Nat.le_of_ble_eq_true rfl) (g_X12_lightest_e l E x0 x1 σ q hx0 h)
abbrev rm_X12_canTry : Room := { frames := 1, cells := 0, slots := 0, locals := 21 }
def tb_X12_canTry : List (Nat × Instr × Nat) := [(0, .aload_n 0, 1), (1, .getfield 7, 3), (4, .sipush 267, 3), (7, .iload_n 1, 1), (8, .iadd, 1), (9, .iaload, 1), (10, .ifCond .ne 15, 3), (13, .aload_n 0, 1), (14, .iload_n 2, 1), (15, .invokevirtual 354, 3), (18, .ifCond .eq 7, 3), (21, .iconst 1, 1), (22, .goto 4, 3), (25, .iconst 0, 1), (26, .ireturn, 1)]
theorem dt_X12_canTry : wg_dc cX12_canTry tb_X12_canTry := by unfold wg_dc; decide +kernel
def f_X12_canTry  (x0 : Nat) (x1 : Int32) (x2 : Int32) (σ : wg_M) : Option (Int32 × wg_M) := wg_ga (wg_n Sm (wg_r Sm x0 1)) (σ (wg_r Sm x0 1)) ((267 : Int32) + x1) (fun v1 => if v1 = 0 then (wg_bd (f_X12_isAlive x0 x2 σ) (fun v2 s3 => if v2 = 0 then (some ((0 : Int32), s3)) else (some ((1 : Int32), s3)))) else (some ((0 : Int32), σ)))
set_option maxRecDepth 20000 in
theorem g_X12_canTry_e (l : Launch) (E : wg_E)  (x0 : Nat) (x1 : Int32) (x2 : Int32) (σ : wg_M) (z : Int32 × wg_M) (hx0 : wg_t Sm x0 = 14) (h : f_X12_canTry  x0 x1 x2 σ = some z) : wg_G l E Sm "WornWigsModel" cX12_canTry 3 (some .boolean) rm_X12_canTry (some z.1) z.2 0 [some (.ref x0), some (.int x1), some (.int x2)] [] σ := by
  refine wr_aload_n (wg_da dt_X12_canTry 0 rfl) rfl ?_
  refine wr_getR wf_X12_7 (wg_da dt_X12_canTry 1 rfl) hx0 ?_
  refine wr_sipush (267 : Int32) (wg_da dt_X12_canTry 2 rfl) (by decide) ?_
  refine wr_iload_n (wg_da dt_X12_canTry 3 rfl) rfl ?_
  refine wr_iadd (wg_da dt_X12_canTry 4 rfl) ?_
  refine wr_iald (wg_da dt_X12_canTry 5 rfl) (wg_ty Sm_ok 12 1 0 hx0 rfl (by decide)).2 h (fun v1 h => ?_)
  refine wr_if_ne 25 (wg_da dt_X12_canTry 6 rfl) (by decide) h (fun h => ?_) (fun h => ?_)
  · refine wr_aload_n (wg_da dt_X12_canTry 7 rfl) rfl ?_
    refine wr_iload_n (wg_da dt_X12_canTry 8 rfl) rfl ?_
    refine wr_callVi [.int x2] [] (wg_da dt_X12_canTry 9 rfl) ⟨wq_8_62, wq_8_64, wq_p7_1⟩ hx0 ⟨rfl, by decide⟩ wy_X12_isAlive (fun q hq => m_X12_isAlive l E x0 x2 hx0 _ q hq) rfl rfl (Nat.le_of_ble_eq_true rfl) ⟨rfl, rfl, by decide, by decide⟩ h (fun v2 s3 h => ?_)
    refine wr_if_eq 25 (wg_da dt_X12_canTry 10 rfl) (by decide) h (fun h => ?_) (fun h => ?_)
    · refine wr_iconst (0 : Int32) (wg_da dt_X12_canTry 13 rfl) (by decide) ?_
      exact wr_zret0 (wg_da dt_X12_canTry 14 rfl) h
    · refine wr_iconst (1 : Int32) (wg_da dt_X12_canTry 11 rfl) (by decide) ?_
      refine wr_goto 26 (wg_da dt_X12_canTry 12 rfl) (by decide) ?_
      exact wr_zret1 (wg_da dt_X12_canTry 14 rfl) h
  · refine wr_iconst (0 : Int32) (wg_da dt_X12_canTry 13 rfl) (by decide) ?_
    exact wr_zret0 (wg_da dt_X12_canTry 14 rfl) h
theorem m_X12_canTry (l : Launch) (E : wg_E) (x0 : Nat) (x1 : Int32) (x2 : Int32) (hx0 : wg_t Sm x0 = 14) (σ : wg_M) (q : Int32 × wg_M) (h : f_X12_canTry x0 x1 x2 σ = some q) : wg_MG l E Sm yX12_canTry cX12_canTry 3 (some .boolean) rm_X12_canTry [.ref x0, .int x1, .int x2] σ (some q.1) q.2 :=
  wg_met [.ref x0, .int x1, .int x2] (plainFor_of_name (by decide)) (Nat.le_of_ble_eq_true rfl) (g_X12_canTry_e l E x0 x1 x2 σ q hx0 h)
abbrev rm_X12_judgesCase : Room := { frames := 6, cells := 0, slots := 0, locals := 142 }
def tb_X12_judgesCase : List (Nat × Instr × Nat) := [(0, .aload_n 0, 1), (1, .iload_n 1, 1), (2, .iload_n 2, 1), (3, .invokevirtual 357, 3), (6, .istore_n 3, 1), (7, .aload_n 0, 1), (8, .iload_n 2, 1), (9, .invokevirtual 134, 3), (12, .istore 4, 2), (14, .aload_n 0, 1), (15, .getfield 7, 3), (18, .sipush 267, 3), (21, .iload_n 1, 1), (22, .iadd, 1), (23, .iload_n 3, 1), (24, .sipush 1000, 3), (27, .iadd, 1), (28, .iastore, 1), (29, .aload_n 0, 1), (30, .getfield 7, 3), (33, .sipush 281, 3), (36, .iload_n 1, 1), (37, .iadd, 1), (38, .iload_n 2, 1), (39, .iconst 1, 1), (40, .iadd, 1), (41, .iastore, 1), (42, .aload_n 0, 1), (43, .getfield 7, 3), (46, .bipush 33, 2), (48, .iload_n 2, 1), (49, .iadd, 1), (50, .aload_n 0, 1), (51, .getfield 7, 3), (54, .bipush 33, 2), (56, .iload_n 2, 1), (57, .iadd, 1), (58, .iaload, 1), (59, .iconst 1, 1), (60, .iadd, 1), (61, .iastore, 1), (62, .aload_n 0, 1), (63, .iconst 0, 1), (64, .iload_n 1, 1), (65, .iload_n 3, 1), (66, .invokevirtual 360, 3), (69, .iload 4, 2), (71, .iconst (-1), 1), (72, .if_icmp .ne 5, 3), (75, .iload_n 3, 1), (76, .ireturn, 1), (77, .aload_n 0, 1), (78, .getfield 7, 3), (81, .bipush 67, 2), (83, .iload 4, 2), (85, .iadd, 1), (86, .iaload, 1), (87, .bipush 8, 2), (89, .if_icmp .ne 15, 3), (92, .aload_n 0, 1), (93, .iload 4, 2), (95, .aload_n 0, 1), (96, .iload 4, 2), (98, .invokevirtual 364, 3), (101, .invokevirtual 367, 3), (104, .aload_n 0, 1), (105, .iload 4, 2), (107, .aload_n 0, 1), (108, .getfield 25, 3), (111, .iload_n 1, 1), (112, .iaload, 1), (113, .aload_n 0, 1), (114, .aload_n 0, 1), (115, .iload_n 3, 1), (116, .bipush 20, 2), (118, .invokevirtual 351, 3), (121, .bipush (-9), 2), (123, .bipush 9, 2), (125, .invokevirtual 336, 3), (128, .bipush 9, 2), (130, .invokevirtual 160, 3), (133, .iload_n 3, 1), (134, .ireturn, 1)]
theorem dt_X12_judgesCase : wg_dc cX12_judgesCase tb_X12_judgesCase := by unfold wg_dc; decide +kernel
def f_X12_judgesCase_104  (x0 : Nat) (x1 : Int32) (x3 : Int32) (x4 : Int32) (σ : wg_M) : Option (Int32 × wg_M) := wg_ga (wg_n Sm (wg_r Sm x0 11)) (σ (wg_r Sm x0 11)) x1 (fun v1 => wg_bd (f_X12_partOf x0 x3 (20 : Int32) σ) (fun v2 s3 => wg_bd (f_X12_held x0 v2 (-9 : Int32) (9 : Int32) s3) (fun v4 s5 => wg_bd (f_X12_comesRule x0 x4 v1 v4 (9 : Int32) s5) (fun _ s6 => some (x3, s6)))))
def f_X12_judgesCase  (x0 : Nat) (x1 : Int32) (x2 : Int32) (σ : wg_M) : Option (Int32 × wg_M) := wg_bd (f_X12_verdictOf x0 x1 x2 σ) (fun v1 s2 => wg_bd (f_X12_wigOf x0 x2 s2) (fun v3 s4 => wg_sa (wg_n Sm (wg_r Sm x0 1)) s4 (wg_r Sm x0 1) ((267 : Int32) + x1) (v1 + (1000 : Int32)) (fun s5 => wg_sa (wg_n Sm (wg_r Sm x0 1)) s5 (wg_r Sm x0 1) ((281 : Int32) + x1) (x2 + (1 : Int32)) (fun s6 => wg_ga (wg_n Sm (wg_r Sm x0 1)) (s6 (wg_r Sm x0 1)) ((33 : Int32) + x2) (fun v7 => wg_sa (wg_n Sm (wg_r Sm x0 1)) s6 (wg_r Sm x0 1) ((33 : Int32) + x2) (v7 + (1 : Int32)) (fun s8 => wg_bd (f_X12_notes x0 (0 : Int32) x1 v1 s8) (fun _ s9 => if v3 = (-1 : Int32) then (some (v1, s9)) else (wg_ga (wg_n Sm (wg_r Sm x0 1)) (s9 (wg_r Sm x0 1)) ((67 : Int32) + v3) (fun v10 => if v10 = (8 : Int32) then (wg_bd (f_X12_lightest x0 v3 s9) (fun v11 s12 => wg_bd (f_X12_goesRule x0 v3 v11 s12) (fun _ s13 => f_X12_judgesCase_104  x0 x1 v1 v3 s13))) else (f_X12_judgesCase_104  x0 x1 v1 v3 s9))))))))))
set_option maxRecDepth 20000 in
theorem g_X12_judgesCase_104 (l : Launch) (E : wg_E)  (x0 : Nat) (x1 : Int32) (x3 : Int32) (x4 : Int32) (σ : wg_M) (z : Int32 × wg_M) (hx0 : wg_t Sm x0 = 14) (h : f_X12_judgesCase_104  x0 x1 x3 x4 σ = some z) : wg_G l E Sm "WornWigsModel" cX12_judgesCase 5 (some .int) rm_X12_judgesCase (some z.1) z.2 104 [some (.ref x0), some (.int x1), none, some (.int x3), some (.int x4)] [] σ := by
  refine wr_aload_n (wg_da dt_X12_judgesCase 65 rfl) rfl ?_
  refine wr_iload (wg_da dt_X12_judgesCase 66 rfl) rfl ?_
  refine wr_aload_n (wg_da dt_X12_judgesCase 67 rfl) rfl ?_
  refine wr_getR wf_X12_25 (wg_da dt_X12_judgesCase 68 rfl) hx0 ?_
  refine wr_iload_n (wg_da dt_X12_judgesCase 69 rfl) rfl ?_
  refine wr_iald (wg_da dt_X12_judgesCase 70 rfl) (wg_ty Sm_ok 12 11 0 hx0 rfl (by decide)).2 h (fun v1 h => ?_)
  refine wr_aload_n (wg_da dt_X12_judgesCase 71 rfl) rfl ?_
  refine wr_aload_n (wg_da dt_X12_judgesCase 72 rfl) rfl ?_
  refine wr_iload_n (wg_da dt_X12_judgesCase 73 rfl) rfl ?_
  refine wr_bipush (20 : Int32) (wg_da dt_X12_judgesCase 74 rfl) (by decide) ?_
  refine wr_callVi [.int x3, .int (20 : Int32)] [.ref x0, .int v1, .int x4, .ref x0] (wg_da dt_X12_judgesCase 75 rfl) ⟨wq_8_110, wq_8_112, wq_p7_13⟩ hx0 ⟨rfl, by decide⟩ wy_X12_partOf (fun q hq => m_X12_partOf l E x0 x3 (20 : Int32) hx0 _ q hq) rfl rfl (Nat.le_of_ble_eq_true rfl) ⟨rfl, rfl, by decide, by decide⟩ h (fun v2 s3 h => ?_)
  refine wr_bipush (-9 : Int32) (wg_da dt_X12_judgesCase 76 rfl) (by decide) ?_
  refine wr_bipush (9 : Int32) (wg_da dt_X12_judgesCase 77 rfl) (by decide) ?_
  refine wr_callVi [.int v2, .int (-9 : Int32), .int (9 : Int32)] [.int v1, .int x4, .ref x0] (wg_da dt_X12_judgesCase 78 rfl) ⟨wq_8_106, wq_8_108, wq_p7_12⟩ hx0 ⟨rfl, by decide⟩ wy_X12_held (fun q hq => m_X12_held l E x0 v2 (-9 : Int32) (9 : Int32) hx0 _ q hq) rfl rfl (Nat.le_of_ble_eq_true rfl) ⟨rfl, rfl, by decide, by decide⟩ h (fun v4 s5 h => ?_)
  refine wr_bipush (9 : Int32) (wg_da dt_X12_judgesCase 79 rfl) (by decide) ?_
  refine wr_callVv [.int x4, .int v1, .int v4, .int (9 : Int32)] [] (wg_da dt_X12_judgesCase 80 rfl) ⟨wq_7_102, wq_7_104, wq_p4_5⟩ hx0 ⟨rfl, by decide⟩ wy_X12_comesRule (fun q hq => m_X12_comesRule l E x0 x4 v1 v4 (9 : Int32) hx0 _ q hq) rfl rfl (Nat.le_of_ble_eq_true rfl) ⟨rfl, rfl, by decide, by decide⟩ h (fun _ s6 h => ?_)
  refine wr_iload_n (wg_da dt_X12_judgesCase 81 rfl) rfl ?_
  exact wr_iret (wg_da dt_X12_judgesCase 82 rfl) h
set_option maxRecDepth 20000 in
theorem g_X12_judgesCase_e (l : Launch) (E : wg_E)  (x0 : Nat) (x1 : Int32) (x2 : Int32) (σ : wg_M) (z : Int32 × wg_M) (hx0 : wg_t Sm x0 = 14) (h : f_X12_judgesCase  x0 x1 x2 σ = some z) : wg_G l E Sm "WornWigsModel" cX12_judgesCase 5 (some .int) rm_X12_judgesCase (some z.1) z.2 0 [some (.ref x0), some (.int x1), some (.int x2), none, none] [] σ := by
  refine wr_aload_n (wg_da dt_X12_judgesCase 0 rfl) rfl ?_
  refine wr_iload_n (wg_da dt_X12_judgesCase 1 rfl) rfl ?_
  refine wr_iload_n (wg_da dt_X12_judgesCase 2 rfl) rfl ?_
  refine wr_callVi [.int x1, .int x2] [] (wg_da dt_X12_judgesCase 3 rfl) ⟨wq_8_74, wq_8_76, wq_p7_4⟩ hx0 ⟨rfl, by decide⟩ wy_X12_verdictOf (fun q hq => m_X12_verdictOf l E x0 x1 x2 hx0 _ q hq) rfl rfl (Nat.le_of_ble_eq_true rfl) ⟨rfl, rfl, by decide, by decide⟩ h (fun v1 s2 h => ?_)
  refine wr_istore_n (wg_da dt_X12_judgesCase 4 rfl) (by decide) ?_
  refine wr_aload_n (wg_da dt_X12_judgesCase 5 rfl) rfl ?_
  refine wr_iload_n (wg_da dt_X12_judgesCase 6 rfl) rfl ?_
  refine wr_callVi [.int x2] [] (wg_da dt_X12_judgesCase 7 rfl) ⟨wq_8_78, wq_8_80, wq_p7_5⟩ hx0 ⟨rfl, by decide⟩ wy_X12_wigOf (fun q hq => m_X12_wigOf l E x0 x2 hx0 _ q hq) rfl rfl (Nat.le_of_ble_eq_true rfl) ⟨rfl, rfl, by decide, by decide⟩ h (fun v3 s4 h => ?_)
  refine wr_istore (wg_da dt_X12_judgesCase 8 rfl) (by decide) ?_
  refine wr_aload_n (wg_da dt_X12_judgesCase 9 rfl) rfl ?_
  refine wr_getR wf_X12_7 (wg_da dt_X12_judgesCase 10 rfl) hx0 ?_
  refine wr_sipush (267 : Int32) (wg_da dt_X12_judgesCase 11 rfl) (by decide) ?_
  refine wr_iload_n (wg_da dt_X12_judgesCase 12 rfl) rfl ?_
  refine wr_iadd (wg_da dt_X12_judgesCase 13 rfl) ?_
  refine wr_iload_n (wg_da dt_X12_judgesCase 14 rfl) rfl ?_
  refine wr_sipush (1000 : Int32) (wg_da dt_X12_judgesCase 15 rfl) (by decide) ?_
  refine wr_iadd (wg_da dt_X12_judgesCase 16 rfl) ?_
  refine wr_iast (wg_da dt_X12_judgesCase 17 rfl) (wg_ty Sm_ok 12 1 0 hx0 rfl (by decide)).2 h (fun s5 h => ?_)
  refine wr_aload_n (wg_da dt_X12_judgesCase 18 rfl) rfl ?_
  refine wr_getR wf_X12_7 (wg_da dt_X12_judgesCase 19 rfl) hx0 ?_
  refine wr_sipush (281 : Int32) (wg_da dt_X12_judgesCase 20 rfl) (by decide) ?_
  refine wr_iload_n (wg_da dt_X12_judgesCase 21 rfl) rfl ?_
  refine wr_iadd (wg_da dt_X12_judgesCase 22 rfl) ?_
  refine wr_iload_n (wg_da dt_X12_judgesCase 23 rfl) rfl ?_
  refine wr_iconst (1 : Int32) (wg_da dt_X12_judgesCase 24 rfl) (by decide) ?_
  refine wr_iadd (wg_da dt_X12_judgesCase 25 rfl) ?_
  refine wr_iast (wg_da dt_X12_judgesCase 26 rfl) (wg_ty Sm_ok 12 1 0 hx0 rfl (by decide)).2 h (fun s6 h => ?_)
  refine wr_aload_n (wg_da dt_X12_judgesCase 27 rfl) rfl ?_
  refine wr_getR wf_X12_7 (wg_da dt_X12_judgesCase 28 rfl) hx0 ?_
  refine wr_bipush (33 : Int32) (wg_da dt_X12_judgesCase 29 rfl) (by decide) ?_
  refine wr_iload_n (wg_da dt_X12_judgesCase 30 rfl) rfl ?_
  refine wr_iadd (wg_da dt_X12_judgesCase 31 rfl) ?_
  refine wr_aload_n (wg_da dt_X12_judgesCase 32 rfl) rfl ?_
  refine wr_getR wf_X12_7 (wg_da dt_X12_judgesCase 33 rfl) hx0 ?_
  refine wr_bipush (33 : Int32) (wg_da dt_X12_judgesCase 34 rfl) (by decide) ?_
  refine wr_iload_n (wg_da dt_X12_judgesCase 35 rfl) rfl ?_
  refine wr_iadd (wg_da dt_X12_judgesCase 36 rfl) ?_
  refine wr_iald (wg_da dt_X12_judgesCase 37 rfl) (wg_ty Sm_ok 12 1 0 hx0 rfl (by decide)).2 h (fun v7 h => ?_)
  refine wr_iconst (1 : Int32) (wg_da dt_X12_judgesCase 38 rfl) (by decide) ?_
  refine wr_iadd (wg_da dt_X12_judgesCase 39 rfl) ?_
  refine wr_iast (wg_da dt_X12_judgesCase 40 rfl) (wg_ty Sm_ok 12 1 0 hx0 rfl (by decide)).2 h (fun s8 h => ?_)
  refine wr_aload_n (wg_da dt_X12_judgesCase 41 rfl) rfl ?_
  refine wr_iconst (0 : Int32) (wg_da dt_X12_judgesCase 42 rfl) (by decide) ?_
  refine wr_iload_n (wg_da dt_X12_judgesCase 43 rfl) rfl ?_
  refine wr_iload_n (wg_da dt_X12_judgesCase 44 rfl) rfl ?_
  refine wr_callVv [.int (0 : Int32), .int x1, .int v1] [] (wg_da dt_X12_judgesCase 45 rfl) ⟨wq_8_114, wq_8_116, wq_p7_14⟩ hx0 ⟨rfl, by decide⟩ wy_X12_notes (fun q hq => m_X12_notes l E x0 (0 : Int32) x1 v1 hx0 _ q hq) rfl rfl (Nat.le_of_ble_eq_true rfl) ⟨rfl, rfl, by decide, by decide⟩ h (fun _ s9 h => ?_)
  refine wr_iload (wg_da dt_X12_judgesCase 46 rfl) rfl ?_
  refine wr_iconst (-1 : Int32) (wg_da dt_X12_judgesCase 47 rfl) (by decide) ?_
  refine wr_icmp_ne 77 (wg_da dt_X12_judgesCase 48 rfl) (by decide) h (fun h => ?_) (fun h => ?_)
  · refine wr_iload_n (wg_da dt_X12_judgesCase 49 rfl) rfl ?_
    exact wr_iret (wg_da dt_X12_judgesCase 50 rfl) h
  · refine wr_aload_n (wg_da dt_X12_judgesCase 51 rfl) rfl ?_
    refine wr_getR wf_X12_7 (wg_da dt_X12_judgesCase 52 rfl) hx0 ?_
    refine wr_bipush (67 : Int32) (wg_da dt_X12_judgesCase 53 rfl) (by decide) ?_
    refine wr_iload (wg_da dt_X12_judgesCase 54 rfl) rfl ?_
    refine wr_iadd (wg_da dt_X12_judgesCase 55 rfl) ?_
    refine wr_iald (wg_da dt_X12_judgesCase 56 rfl) (wg_ty Sm_ok 12 1 0 hx0 rfl (by decide)).2 h (fun v10 h => ?_)
    refine wr_bipush (8 : Int32) (wg_da dt_X12_judgesCase 57 rfl) (by decide) ?_
    refine wr_icmp_ne 104 (wg_da dt_X12_judgesCase 58 rfl) (by decide) h (fun h => ?_) (fun h => ?_)
    · refine wr_aload_n (wg_da dt_X12_judgesCase 59 rfl) rfl ?_
      refine wr_iload (wg_da dt_X12_judgesCase 60 rfl) rfl ?_
      refine wr_aload_n (wg_da dt_X12_judgesCase 61 rfl) rfl ?_
      refine wr_iload (wg_da dt_X12_judgesCase 62 rfl) rfl ?_
      refine wr_callVi [.int v3] [.int v3, .ref x0] (wg_da dt_X12_judgesCase 63 rfl) ⟨wq_8_118, wq_8_120, wq_p7_15⟩ hx0 ⟨rfl, by decide⟩ wy_X12_lightest (fun q hq => m_X12_lightest l E x0 v3 hx0 _ q hq) rfl rfl (Nat.le_of_ble_eq_true rfl) ⟨rfl, rfl, by decide, by decide⟩ h (fun v11 s12 h => ?_)
      refine wr_callVv [.int v3, .int v11] [] (wg_da dt_X12_judgesCase 64 rfl) ⟨wq_8_122, wq_8_124, wq_p8_0⟩ hx0 ⟨rfl, by decide⟩ wy_X12_goesRule (fun q hq => m_X12_goesRule l E x0 v3 v11 hx0 _ q hq) rfl rfl (Nat.le_of_ble_eq_true rfl) ⟨rfl, rfl, by decide, by decide⟩ h (fun _ s13 h => ?_)
      exact wr_wk [true, true, false, true, true] (g_X12_judgesCase_104 l E  x0 x1 v1 v3 s13 _ hx0  h)
    · exact wr_wk [true, true, false, true, true] (g_X12_judgesCase_104 l E  x0 x1 v1 v3 s9 _ hx0  h)
theorem m_X12_judgesCase (l : Launch) (E : wg_E) (x0 : Nat) (x1 : Int32) (x2 : Int32) (hx0 : wg_t Sm x0 = 14) (σ : wg_M) (q : Int32 × wg_M) (h : f_X12_judgesCase x0 x1 x2 σ = some q) : wg_MG l E Sm yX12_judgesCase cX12_judgesCase 5 (some .int) rm_X12_judgesCase [.ref x0, .int x1, .int x2] σ (some q.1) q.2 :=
  wg_met [.ref x0, .int x1, .int x2] (plainFor_of_name (by decide)) (Nat.le_of_ble_eq_true rfl) (g_X12_judgesCase_e l E x0 x1 x2 σ q hx0 h)
abbrev rm_X12_tries : Room := { frames := 7, cells := 0, slots := 0, locals := 166 }
def tb_X12_tries : List (Nat × Instr × Nat) := [(0, .aload_n 0, 1), (1, .iconst 0, 1), (2, .putfield 113, 3), (5, .aload_n 0, 1), (6, .iload_n 1, 1), (7, .invokevirtual 167, 3), (10, .ifCond .eq 20, 3), (13, .aload_n 0, 1), (14, .iload_n 2, 1), (15, .invokevirtual 164, 3), (18, .ifCond .eq 12, 3), (21, .aload_n 0, 1), (22, .iload_n 1, 1), (23, .iload_n 2, 1), (24, .invokevirtual 370, 3), (27, .ifCond .ne 7, 3), (30, .sipush (-10000), 3), (33, .ireturn, 1), (34, .aload_n 0, 1), (35, .invokevirtual 374, 3), (38, .aload_n 0, 1), (39, .iload_n 1, 1), (40, .iload_n 2, 1), (41, .invokevirtual 377, 3), (44, .ireturn, 1)]
theorem dt_X12_tries : wg_dc cX12_tries tb_X12_tries := by unfold wg_dc; decide +kernel
def f_X12_tries  (x0 : Nat) (x1 : Int32) (x2 : Int32) (σ : wg_M) : Option (Int32 × wg_M) := wg_st σ x0 0 (0 : Int32) (fun s1 => wg_bd (f_X12_isTrial x0 x1 s1) (fun v2 s3 => if v2 = 0 then (some ((-10000 : Int32), s3)) else (wg_bd (f_X12_isJudge x0 x2 s3) (fun v4 s5 => if v4 = 0 then (some ((-10000 : Int32), s5)) else (wg_bd (f_X12_canTry x0 x1 x2 s5) (fun v6 s7 => if v6 = 0 then (some ((-10000 : Int32), s7)) else (wg_bd (f_X12_keepsAhead x0 s7) (fun _ s8 => wg_bd (f_X12_judgesCase x0 x1 x2 s8) (fun v9 s10 => some (v9, s10))))))))))
set_option maxRecDepth 20000 in
theorem g_X12_tries_e (l : Launch) (E : wg_E)  (x0 : Nat) (x1 : Int32) (x2 : Int32) (σ : wg_M) (z : Int32 × wg_M) (hx0 : wg_t Sm x0 = 14) (h : f_X12_tries  x0 x1 x2 σ = some z) : wg_G l E Sm "WornWigsModel" cX12_tries 3 (some .int) rm_X12_tries (some z.1) z.2 0 [some (.ref x0), some (.int x1), some (.int x2)] [] σ := by
  refine wr_aload_n (wg_da dt_X12_tries 0 rfl) rfl ?_
  refine wr_iconst (0 : Int32) (wg_da dt_X12_tries 1 rfl) (by decide) ?_
  refine wr_putI wfp_X12_113 (wg_da dt_X12_tries 2 rfl) hx0 h (fun s1 h => ?_)
  refine wr_aload_n (wg_da dt_X12_tries 3 rfl) rfl ?_
  refine wr_iload_n (wg_da dt_X12_tries 4 rfl) rfl ?_
  refine wr_callVi [.int x1] [] (wg_da dt_X12_tries 5 rfl) ⟨wq_7_134, wq_7_136, wq_p4_12⟩ hx0 ⟨rfl, by decide⟩ wy_X12_isTrial (fun q hq => m_X12_isTrial l E x0 x1 hx0 _ q hq) rfl rfl (Nat.le_of_ble_eq_true rfl) ⟨rfl, rfl, by decide, by decide⟩ h (fun v2 s3 h => ?_)
  refine wr_if_eq 30 (wg_da dt_X12_tries 6 rfl) (by decide) h (fun h => ?_) (fun h => ?_)
  · refine wr_sipush (-10000 : Int32) (wg_da dt_X12_tries 16 rfl) (by decide) ?_
    exact wr_iret (wg_da dt_X12_tries 17 rfl) h
  · refine wr_aload_n (wg_da dt_X12_tries 7 rfl) rfl ?_
    refine wr_iload_n (wg_da dt_X12_tries 8 rfl) rfl ?_
    refine wr_callVi [.int x2] [] (wg_da dt_X12_tries 9 rfl) ⟨wq_7_130, wq_7_132, wq_p4_11⟩ hx0 ⟨rfl, by decide⟩ wy_X12_isJudge (fun q hq => m_X12_isJudge l E x0 x2 hx0 _ q hq) rfl rfl (Nat.le_of_ble_eq_true rfl) ⟨rfl, rfl, by decide, by decide⟩ h (fun v4 s5 h => ?_)
    refine wr_if_eq 30 (wg_da dt_X12_tries 10 rfl) (by decide) h (fun h => ?_) (fun h => ?_)
    · refine wr_sipush (-10000 : Int32) (wg_da dt_X12_tries 16 rfl) (by decide) ?_
      exact wr_iret (wg_da dt_X12_tries 17 rfl) h
    · refine wr_aload_n (wg_da dt_X12_tries 11 rfl) rfl ?_
      refine wr_iload_n (wg_da dt_X12_tries 12 rfl) rfl ?_
      refine wr_iload_n (wg_da dt_X12_tries 13 rfl) rfl ?_
      refine wr_callVi [.int x1, .int x2] [] (wg_da dt_X12_tries 14 rfl) ⟨wq_8_58, wq_8_60, wq_p7_0⟩ hx0 ⟨rfl, by decide⟩ wy_X12_canTry (fun q hq => m_X12_canTry l E x0 x1 x2 hx0 _ q hq) rfl rfl (Nat.le_of_ble_eq_true rfl) ⟨rfl, rfl, by decide, by decide⟩ h (fun v6 s7 h => ?_)
      refine wr_if_ne 34 (wg_da dt_X12_tries 15 rfl) (by decide) h (fun h => ?_) (fun h => ?_)
      · refine wr_sipush (-10000 : Int32) (wg_da dt_X12_tries 16 rfl) (by decide) ?_
        exact wr_iret (wg_da dt_X12_tries 17 rfl) h
      · refine wr_aload_n (wg_da dt_X12_tries 18 rfl) rfl ?_
        refine wr_callVv [] [] (wg_da dt_X12_tries 19 rfl) ⟨wq_8_66, wq_8_68, wq_p7_2⟩ hx0 ⟨rfl, by decide⟩ wy_X12_keepsAhead (fun q hq => m_X12_keepsAhead l E x0 hx0 _ q hq) rfl rfl (Nat.le_of_ble_eq_true rfl) ⟨rfl, rfl, by decide, by decide⟩ h (fun _ s8 h => ?_)
        refine wr_aload_n (wg_da dt_X12_tries 20 rfl) rfl ?_
        refine wr_iload_n (wg_da dt_X12_tries 21 rfl) rfl ?_
        refine wr_iload_n (wg_da dt_X12_tries 22 rfl) rfl ?_
        refine wr_callVi [.int x1, .int x2] [] (wg_da dt_X12_tries 23 rfl) ⟨wq_8_70, wq_8_72, wq_p7_3⟩ hx0 ⟨rfl, by decide⟩ wy_X12_judgesCase (fun q hq => m_X12_judgesCase l E x0 x1 x2 hx0 _ q hq) rfl rfl (Nat.le_of_ble_eq_true rfl) ⟨rfl, rfl, by decide, by decide⟩ h (fun v9 s10 h => ?_)
        exact wr_iret (wg_da dt_X12_tries 24 rfl) h
theorem m_X12_tries (l : Launch) (E : wg_E) (x0 : Nat) (x1 : Int32) (x2 : Int32) (hx0 : wg_t Sm x0 = 14) (σ : wg_M) (q : Int32 × wg_M) (h : f_X12_tries x0 x1 x2 σ = some q) : wg_MG l E Sm yX12_tries cX12_tries 3 (some .int) rm_X12_tries [.ref x0, .int x1, .int x2] σ (some q.1) q.2 :=
  wg_met [.ref x0, .int x1, .int x2] (plainFor_of_name (by decide)) (Nat.le_of_ble_eq_true rfl) (g_X12_tries_e l E x0 x1 x2 σ q hx0 h)
abbrev rm_X12_rulesFor : Room := { frames := 1, cells := 0, slots := 0, locals := 22 }
def tb_X12_rulesFor : List (Nat × Instr × Nat) := [(0, .iconst 0, 1), (1, .istore_n 3, 1), (2, .iconst 0, 1), (3, .istore 4, 2), (5, .iload 4, 2), (7, .aload_n 0, 1), (8, .getfield 7, 3), (11, .bipush 67, 2), (13, .iload_n 1, 1), (14, .iadd, 1), (15, .iaload, 1), (16, .if_icmp .ge 29, 3), (19, .aload_n 0, 1), (20, .getfield 7, 3), (23, .aload_n 0, 1), (24, .iload_n 1, 1), (25, .iload 4, 2), (27, .invokevirtual 138, 3), (30, .iaload, 1), (31, .iload_n 2, 1), (32, .if_icmp .ne 7, 3), (35, .iload_n 3, 1), (36, .iconst 1, 1), (37, .iadd, 1), (38, .istore_n 3, 1), (39, .iinc 4 1, 3), (42, .goto (-37), 3), (45, .iload_n 3, 1), (46, .ireturn, 1)]
theorem dt_X12_rulesFor : wg_dc cX12_rulesFor tb_X12_rulesFor := by unfold wg_dc; decide +kernel
def f_X12_rulesFor_39 (k5 : Nat → Int32 → Int32 → Int32 → Int32 → wg_M → Option (Int32 × wg_M)) (x0 : Nat) (x1 : Int32) (x2 : Int32) (x3 : Int32) (x4 : Int32) (σ : wg_M) : Option (Int32 × wg_M) := wg_let (x4 + (1 : Int32)) (fun v1 => k5 x0 x1 x2 x3 v1 σ)
def f_X12_rulesFor_5  : Nat → Nat → Int32 → Int32 → Int32 → Int32 → wg_M → Option (Int32 × wg_M)
  | 0, _, _, _, _, _, _ => none
  | n + 1, x0, x1, x2, x3, x4, σ => wg_ga (wg_n Sm (wg_r Sm x0 1)) (σ (wg_r Sm x0 1)) ((67 : Int32) + x1) (fun v1 => if v1 ≤ x4 then (some (x3, σ)) else (wg_bd (f_X12_ruleAt x0 x1 x4 σ) (fun v2 s3 => wg_ga (wg_n Sm (wg_r Sm x0 1)) (s3 (wg_r Sm x0 1)) v2 (fun v4 => if v4 = x2 then (wg_let (x3 + (1 : Int32)) (fun v5 => f_X12_rulesFor_39 (f_X12_rulesFor_5  n) x0 x1 x2 v5 x4 s3)) else (f_X12_rulesFor_39 (f_X12_rulesFor_5  n) x0 x1 x2 x3 x4 s3)))))
def f_X12_rulesFor  (x0 : Nat) (x1 : Int32) (x2 : Int32) (σ : wg_M) : Option (Int32 × wg_M) := f_X12_rulesFor_5  wg_N x0 x1 x2 (0 : Int32) (0 : Int32) σ
set_option maxRecDepth 20000 in
theorem g_X12_rulesFor_39 (l : Launch) (E : wg_E) (k5 : Nat → Int32 → Int32 → Int32 → Int32 → wg_M → Option (Int32 × wg_M)) (x0 : Nat) (x1 : Int32) (x2 : Int32) (x3 : Int32) (x4 : Int32) (σ : wg_M) (z : Int32 × wg_M) (hx0 : wg_t Sm x0 = 14) (hk5 : ∀ (x0 : Nat) (x1 : Int32) (x2 : Int32) (x3 : Int32) (x4 : Int32) (σ : wg_M), wg_t Sm x0 = 14 → k5 x0 x1 x2 x3 x4 σ = some z → wg_G l E Sm "WornWigsModel" cX12_rulesFor 5 (some .int) rm_X12_rulesFor (some z.1) z.2 5 [some (.ref x0), some (.int x1), some (.int x2), some (.int x3), some (.int x4)] [] σ) (h : f_X12_rulesFor_39 k5 x0 x1 x2 x3 x4 σ = some z) : wg_G l E Sm "WornWigsModel" cX12_rulesFor 5 (some .int) rm_X12_rulesFor (some z.1) z.2 39 [some (.ref x0), some (.int x1), some (.int x2), some (.int x3), some (.int x4)] [] σ := by
  refine wr_iinc (c0 := (1 : Int32)) (wg_da dt_X12_rulesFor 25 rfl) rfl (by decide) (by decide) h (fun v1 h => ?_)
  refine wr_goto 5 (wg_da dt_X12_rulesFor 26 rfl) (by decide) ?_
  exact wr_wk [true, true, true, true, true] (hk5 x0 x1 x2 x3 v1 σ hx0 h)
set_option maxRecDepth 20000 in
theorem g_X12_rulesFor_5 (l : Launch) (E : wg_E)  (z : Int32 × wg_M) : ∀ (n : Nat) (x0 : Nat) (x1 : Int32) (x2 : Int32) (x3 : Int32) (x4 : Int32) (σ : wg_M) (hx0 : wg_t Sm x0 = 14) (h : f_X12_rulesFor_5  n x0 x1 x2 x3 x4 σ = some z), wg_G l E Sm "WornWigsModel" cX12_rulesFor 5 (some .int) rm_X12_rulesFor (some z.1) z.2 5 [some (.ref x0), some (.int x1), some (.int x2), some (.int x3), some (.int x4)] [] σ := by
  intro n
  induction n with
  | zero => intro x0 x1 x2 x3 x4 σ hx0 h; cases h
  | succ n ih =>
    intro x0 x1 x2 x3 x4 σ hx0 h
    refine wr_iload (wg_da dt_X12_rulesFor 4 rfl) rfl ?_
    refine wr_aload_n (wg_da dt_X12_rulesFor 5 rfl) rfl ?_
    refine wr_getR wf_X12_7 (wg_da dt_X12_rulesFor 6 rfl) hx0 ?_
    refine wr_bipush (67 : Int32) (wg_da dt_X12_rulesFor 7 rfl) (by decide) ?_
    refine wr_iload_n (wg_da dt_X12_rulesFor 8 rfl) rfl ?_
    refine wr_iadd (wg_da dt_X12_rulesFor 9 rfl) ?_
    refine wr_iald (wg_da dt_X12_rulesFor 10 rfl) (wg_ty Sm_ok 12 1 0 hx0 rfl (by decide)).2 h (fun v1 h => ?_)
    refine wr_icmp_ge 45 (wg_da dt_X12_rulesFor 11 rfl) (by decide) h (fun h => ?_) (fun h => ?_)
    · refine wr_iload_n (wg_da dt_X12_rulesFor 27 rfl) rfl ?_
      exact wr_iret (wg_da dt_X12_rulesFor 28 rfl) h
    · refine wr_aload_n (wg_da dt_X12_rulesFor 12 rfl) rfl ?_
      refine wr_getR wf_X12_7 (wg_da dt_X12_rulesFor 13 rfl) hx0 ?_
      refine wr_aload_n (wg_da dt_X12_rulesFor 14 rfl) rfl ?_
      refine wr_iload_n (wg_da dt_X12_rulesFor 15 rfl) rfl ?_
      refine wr_iload (wg_da dt_X12_rulesFor 16 rfl) rfl ?_
      refine wr_callVi [.int x1, .int x4] [.ref (wg_r Sm x0 1)] (wg_da dt_X12_rulesFor 17 rfl) ⟨wq_7_106, wq_7_108, wq_p4_6⟩ hx0 ⟨rfl, by decide⟩ wy_X12_ruleAt (fun q hq => m_X12_ruleAt l E x0 x1 x4 hx0 _ q hq) rfl rfl (Nat.le_of_ble_eq_true rfl) ⟨rfl, rfl, by decide, by decide⟩ h (fun v2 s3 h => ?_)
      refine wr_iald (wg_da dt_X12_rulesFor 18 rfl) (wg_ty Sm_ok 12 1 0 hx0 rfl (by decide)).2 h (fun v4 h => ?_)
      refine wr_iload_n (wg_da dt_X12_rulesFor 19 rfl) rfl ?_
      refine wr_icmp_ne 39 (wg_da dt_X12_rulesFor 20 rfl) (by decide) h (fun h => ?_) (fun h => ?_)
      · refine wr_iload_n (wg_da dt_X12_rulesFor 21 rfl) rfl ?_
        refine wr_iconst (1 : Int32) (wg_da dt_X12_rulesFor 22 rfl) (by decide) ?_
        refine wr_iadd (wg_da dt_X12_rulesFor 23 rfl) ?_
        refine wr_let h (fun v5 h => ?_)
        refine wr_istore_n (wg_da dt_X12_rulesFor 24 rfl) (by decide) ?_
        exact wr_wk [true, true, true, true, true] (g_X12_rulesFor_39 l E (f_X12_rulesFor_5  n) x0 x1 x2 v5 x4 s3 _ hx0 (fun x0 x1 x2 x3 x4 σ hx0 h => ih x0 x1 x2 x3 x4 σ hx0 h) h)
      · exact wr_wk [true, true, true, true, true] (g_X12_rulesFor_39 l E (f_X12_rulesFor_5  n) x0 x1 x2 x3 x4 s3 _ hx0 (fun x0 x1 x2 x3 x4 σ hx0 h => ih x0 x1 x2 x3 x4 σ hx0 h) h)
set_option maxRecDepth 20000 in
theorem g_X12_rulesFor_e (l : Launch) (E : wg_E)  (x0 : Nat) (x1 : Int32) (x2 : Int32) (σ : wg_M) (z : Int32 × wg_M) (hx0 : wg_t Sm x0 = 14) (h : f_X12_rulesFor  x0 x1 x2 σ = some z) : wg_G l E Sm "WornWigsModel" cX12_rulesFor 5 (some .int) rm_X12_rulesFor (some z.1) z.2 0 [some (.ref x0), some (.int x1), some (.int x2), none, none] [] σ := by
  refine wr_iconst (0 : Int32) (wg_da dt_X12_rulesFor 0 rfl) (by decide) ?_
  refine wr_istore_n (wg_da dt_X12_rulesFor 1 rfl) (by decide) ?_
  refine wr_iconst (0 : Int32) (wg_da dt_X12_rulesFor 2 rfl) (by decide) ?_
  refine wr_istore (wg_da dt_X12_rulesFor 3 rfl) (by decide) ?_
  exact wr_wk [true, true, true, true, true] (g_X12_rulesFor_5 l E  _  wg_N x0 x1 x2 (0 : Int32) (0 : Int32) σ hx0 h)
theorem m_X12_rulesFor (l : Launch) (E : wg_E) (x0 : Nat) (x1 : Int32) (x2 : Int32) (hx0 : wg_t Sm x0 = 14) (σ : wg_M) (q : Int32 × wg_M) (h : f_X12_rulesFor x0 x1 x2 σ = some q) : wg_MG l E Sm yX12_rulesFor cX12_rulesFor 5 (some .int) rm_X12_rulesFor [.ref x0, .int x1, .int x2] σ (some q.1) q.2 :=
  wg_met [.ref x0, .int x1, .int x2] (plainFor_of_name (by decide)) (Nat.le_of_ble_eq_true rfl) (g_X12_rulesFor_e l E x0 x1 x2 σ q hx0 h)
abbrev rm_X12_canAct : Room := { frames := 2, cells := 0, slots := 0, locals := 46 }
def tb_X12_canAct : List (Nat × Instr × Nat) := [(0, .iload_n 1, 1), (1, .ifCond .ne 26, 3), (4, .aload_n 0, 1), (5, .iload_n 3, 1), (6, .invokevirtual 354, 3), (9, .ifCond .eq 16, 3), (12, .aload_n 0, 1), (13, .iload_n 3, 1), (14, .invokevirtual 134, 3), (17, .iconst (-1), 1), (18, .if_icmp .ne 7, 3), (21, .iconst 1, 1), (22, .goto 4, 3), (25, .iconst 0, 1), (26, .ireturn, 1), (27, .iload_n 1, 1), (28, .iconst 1, 1), (29, .if_icmp .ne 18, 3), (32, .aload_n 0, 1), (33, .iload_n 2, 1), (34, .invokevirtual 380, 3), (37, .iconst (-1), 1), (38, .if_icmp .eq 7, 3), (41, .iconst 1, 1), (42, .goto 4, 3), (45, .iconst 0, 1), (46, .ireturn, 1), (47, .iload_n 1, 1), (48, .iconst 2, 1), (49, .if_icmp .ne 12, 3), (52, .aload_n 0, 1), (53, .iload_n 2, 1), (54, .iload_n 3, 1), (55, .invokevirtual 383, 3), (58, .ifCond .le 7, 3), (61, .iconst 1, 1), (62, .goto 4, 3), (65, .iconst 0, 1), (66, .ireturn, 1)]
theorem dt_X12_canAct : wg_dc cX12_canAct tb_X12_canAct := by unfold wg_dc; decide +kernel
def f_X12_canAct_61   (σ : wg_M) : Option (Int32 × wg_M) := some ((1 : Int32), σ)
def f_X12_canAct  (x0 : Nat) (x1 : Int32) (x2 : Int32) (x3 : Int32) (σ : wg_M) : Option (Int32 × wg_M) := if x1 = 0 then (wg_bd (f_X12_isAlive x0 x3 σ) (fun v5 s6 => if v5 = 0 then (some ((0 : Int32), s6)) else (wg_bd (f_X12_wigOf x0 x3 s6) (fun v7 s8 => if v7 = (-1 : Int32) then (some ((1 : Int32), s8)) else (some ((0 : Int32), s8)))))) else (if x1 = (1 : Int32) then (wg_bd (f_X12_wearerOf x0 x2 σ) (fun v3 s4 => if v3 = (-1 : Int32) then (some ((0 : Int32), s4)) else (some ((1 : Int32), s4)))) else (if x1 = (2 : Int32) then (wg_bd (f_X12_rulesFor x0 x2 x3 σ) (fun v1 s2 => if v1 ≤ 0 then (some ((0 : Int32), s2)) else (f_X12_canAct_61   s2))) else (f_X12_canAct_61   σ)))
set_option maxRecDepth 20000 in
theorem g_X12_canAct_61 (l : Launch) (E : wg_E)   (σ : wg_M) (z : Int32 × wg_M)  (h : f_X12_canAct_61   σ = some z) : wg_G l E Sm "WornWigsModel" cX12_canAct 4 (some .boolean) rm_X12_canAct (some z.1) z.2 61 [none, none, none, none] [] σ := by
  refine wr_iconst (1 : Int32) (wg_da dt_X12_canAct 35 rfl) (by decide) ?_
  refine wr_goto 66 (wg_da dt_X12_canAct 36 rfl) (by decide) ?_
  exact wr_zret1 (wg_da dt_X12_canAct 38 rfl) h
set_option maxRecDepth 20000 in
theorem g_X12_canAct_e (l : Launch) (E : wg_E)  (x0 : Nat) (x1 : Int32) (x2 : Int32) (x3 : Int32) (σ : wg_M) (z : Int32 × wg_M) (hx0 : wg_t Sm x0 = 14) (h : f_X12_canAct  x0 x1 x2 x3 σ = some z) : wg_G l E Sm "WornWigsModel" cX12_canAct 4 (some .boolean) rm_X12_canAct (some z.1) z.2 0 [some (.ref x0), some (.int x1), some (.int x2), some (.int x3)] [] σ := by
  refine wr_iload_n (wg_da dt_X12_canAct 0 rfl) rfl ?_
  refine wr_if_ne 27 (wg_da dt_X12_canAct 1 rfl) (by decide) h (fun h => ?_) (fun h => ?_)
  · refine wr_aload_n (wg_da dt_X12_canAct 2 rfl) rfl ?_
    refine wr_iload_n (wg_da dt_X12_canAct 3 rfl) rfl ?_
    refine wr_callVi [.int x3] [] (wg_da dt_X12_canAct 4 rfl) ⟨wq_8_62, wq_8_64, wq_p7_1⟩ hx0 ⟨rfl, by decide⟩ wy_X12_isAlive (fun q hq => m_X12_isAlive l E x0 x3 hx0 _ q hq) rfl rfl (Nat.le_of_ble_eq_true rfl) ⟨rfl, rfl, by decide, by decide⟩ h (fun v5 s6 h => ?_)
    refine wr_if_eq 25 (wg_da dt_X12_canAct 5 rfl) (by decide) h (fun h => ?_) (fun h => ?_)
    · refine wr_iconst (0 : Int32) (wg_da dt_X12_canAct 13 rfl) (by decide) ?_
      exact wr_zret0 (wg_da dt_X12_canAct 14 rfl) h
    · refine wr_aload_n (wg_da dt_X12_canAct 6 rfl) rfl ?_
      refine wr_iload_n (wg_da dt_X12_canAct 7 rfl) rfl ?_
      refine wr_callVi [.int x3] [] (wg_da dt_X12_canAct 8 rfl) ⟨wq_8_78, wq_8_80, wq_p7_5⟩ hx0 ⟨rfl, by decide⟩ wy_X12_wigOf (fun q hq => m_X12_wigOf l E x0 x3 hx0 _ q hq) rfl rfl (Nat.le_of_ble_eq_true rfl) ⟨rfl, rfl, by decide, by decide⟩ h (fun v7 s8 h => ?_)
      refine wr_iconst (-1 : Int32) (wg_da dt_X12_canAct 9 rfl) (by decide) ?_
      refine wr_icmp_ne 25 (wg_da dt_X12_canAct 10 rfl) (by decide) h (fun h => ?_) (fun h => ?_)
      · refine wr_iconst (1 : Int32) (wg_da dt_X12_canAct 11 rfl) (by decide) ?_
        refine wr_goto 26 (wg_da dt_X12_canAct 12 rfl) (by decide) ?_
        exact wr_zret1 (wg_da dt_X12_canAct 14 rfl) h
      · refine wr_iconst (0 : Int32) (wg_da dt_X12_canAct 13 rfl) (by decide) ?_
        exact wr_zret0 (wg_da dt_X12_canAct 14 rfl) h
  · refine wr_iload_n (wg_da dt_X12_canAct 15 rfl) rfl ?_
    refine wr_iconst (1 : Int32) (wg_da dt_X12_canAct 16 rfl) (by decide) ?_
    refine wr_icmp_ne 47 (wg_da dt_X12_canAct 17 rfl) (by decide) h (fun h => ?_) (fun h => ?_)
    · refine wr_aload_n (wg_da dt_X12_canAct 18 rfl) rfl ?_
      refine wr_iload_n (wg_da dt_X12_canAct 19 rfl) rfl ?_
      refine wr_callVi [.int x2] [] (wg_da dt_X12_canAct 20 rfl) ⟨wq_8_138, wq_8_140, wq_p8_3⟩ hx0 ⟨rfl, by decide⟩ wy_X12_wearerOf (fun q hq => m_X12_wearerOf l E x0 x2 hx0 _ q hq) rfl rfl (Nat.le_of_ble_eq_true rfl) ⟨rfl, rfl, by decide, by decide⟩ h (fun v3 s4 h => ?_)
      refine wr_iconst (-1 : Int32) (wg_da dt_X12_canAct 21 rfl) (by decide) ?_
      refine wr_icmp_eq 45 (wg_da dt_X12_canAct 22 rfl) (by decide) h (fun h => ?_) (fun h => ?_)
      · refine wr_iconst (0 : Int32) (wg_da dt_X12_canAct 25 rfl) (by decide) ?_
        exact wr_zret0 (wg_da dt_X12_canAct 26 rfl) h
      · refine wr_iconst (1 : Int32) (wg_da dt_X12_canAct 23 rfl) (by decide) ?_
        refine wr_goto 46 (wg_da dt_X12_canAct 24 rfl) (by decide) ?_
        exact wr_zret1 (wg_da dt_X12_canAct 26 rfl) h
    · refine wr_iload_n (wg_da dt_X12_canAct 27 rfl) rfl ?_
      refine wr_iconst (2 : Int32) (wg_da dt_X12_canAct 28 rfl) (by decide) ?_
      refine wr_icmp_ne 61 (wg_da dt_X12_canAct 29 rfl) (by decide) h (fun h => ?_) (fun h => ?_)
      · refine wr_aload_n (wg_da dt_X12_canAct 30 rfl) rfl ?_
        refine wr_iload_n (wg_da dt_X12_canAct 31 rfl) rfl ?_
        refine wr_iload_n (wg_da dt_X12_canAct 32 rfl) rfl ?_
        refine wr_callVi [.int x2, .int x3] [] (wg_da dt_X12_canAct 33 rfl) ⟨wq_8_142, wq_8_144, wq_p8_4⟩ hx0 ⟨rfl, by decide⟩ wy_X12_rulesFor (fun q hq => m_X12_rulesFor l E x0 x2 x3 hx0 _ q hq) rfl rfl (Nat.le_of_ble_eq_true rfl) ⟨rfl, rfl, by decide, by decide⟩ h (fun v1 s2 h => ?_)
        refine wr_if_le 65 (wg_da dt_X12_canAct 34 rfl) (by decide) h (fun h => ?_) (fun h => ?_)
        · refine wr_iconst (0 : Int32) (wg_da dt_X12_canAct 37 rfl) (by decide) ?_
          exact wr_zret0 (wg_da dt_X12_canAct 38 rfl) h
        · exact wr_wk [false, false, false, false] (g_X12_canAct_61 l E   s2 _   h)
      · exact wr_wk [false, false, false, false] (g_X12_canAct_61 l E   σ _   h)
theorem m_X12_canAct (l : Launch) (E : wg_E) (x0 : Nat) (x1 : Int32) (x2 : Int32) (x3 : Int32) (hx0 : wg_t Sm x0 = 14) (σ : wg_M) (q : Int32 × wg_M) (h : f_X12_canAct x0 x1 x2 x3 σ = some q) : wg_MG l E Sm yX12_canAct cX12_canAct 4 (some .boolean) rm_X12_canAct [.ref x0, .int x1, .int x2, .int x3] σ (some q.1) q.2 :=
  wg_met [.ref x0, .int x1, .int x2, .int x3] (plainFor_of_name (by decide)) (Nat.le_of_ble_eq_true rfl) (g_X12_canAct_e l E x0 x1 x2 x3 σ q hx0 h)
abbrev rm_X12_isOn : Room := { frames := 2, cells := 0, slots := 0, locals := 43 }
def tb_X12_isOn : List (Nat × Instr × Nat) := [(0, .aload_n 0, 1), (1, .iload_n 1, 1), (2, .invokevirtual 380, 3), (5, .istore_n 3, 1), (6, .iload_n 3, 1), (7, .iconst (-1), 1), (8, .if_icmp .eq 13, 3), (11, .aload_n 0, 1), (12, .getfield 7, 3), (15, .bipush 13, 2), (17, .iload_n 3, 1), (18, .iadd, 1), (19, .iconst 0, 1), (20, .iastore, 1), (21, .aload_n 0, 1), (22, .getfield 7, 3), (25, .bipush 13, 2), (27, .iload_n 2, 1), (28, .iadd, 1), (29, .iload_n 1, 1), (30, .iconst 1, 1), (31, .iadd, 1), (32, .iastore, 1), (33, .aload_n 0, 1), (34, .getfield 7, 3), (37, .bipush 59, 2), (39, .iload_n 1, 1), (40, .iadd, 1), (41, .aload_n 0, 1), (42, .getfield 7, 3), (45, .bipush 59, 2), (47, .iload_n 1, 1), (48, .iadd, 1), (49, .iaload, 1), (50, .iconst 1, 1), (51, .iadd, 1), (52, .iastore, 1), (53, .aload_n 0, 1), (54, .iconst 1, 1), (55, .iload_n 1, 1), (56, .iload_n 2, 1), (57, .invokevirtual 360, 3), (60, .return_, 1)]
theorem dt_X12_isOn : wg_dc cX12_isOn tb_X12_isOn := by unfold wg_dc; decide +kernel
def f_X12_isOn_21  (x0 : Nat) (x1 : Int32) (x2 : Int32) (σ : wg_M) : Option (Int32 × wg_M) := wg_sa (wg_n Sm (wg_r Sm x0 1)) σ (wg_r Sm x0 1) ((13 : Int32) + x2) (x1 + (1 : Int32)) (fun s1 => wg_ga (wg_n Sm (wg_r Sm x0 1)) (s1 (wg_r Sm x0 1)) ((59 : Int32) + x1) (fun v2 => wg_sa (wg_n Sm (wg_r Sm x0 1)) s1 (wg_r Sm x0 1) ((59 : Int32) + x1) (v2 + (1 : Int32)) (fun s3 => wg_bd (f_X12_notes x0 (1 : Int32) x1 x2 s3) (fun _ s4 => some (0, s4)))))
def f_X12_isOn  (x0 : Nat) (x1 : Int32) (x2 : Int32) (σ : wg_M) : Option (Int32 × wg_M) := wg_bd (f_X12_wearerOf x0 x1 σ) (fun v1 s2 => if v1 = (-1 : Int32) then (f_X12_isOn_21  x0 x1 x2 s2) else (wg_sa (wg_n Sm (wg_r Sm x0 1)) s2 (wg_r Sm x0 1) ((13 : Int32) + v1) (0 : Int32) (fun s3 => f_X12_isOn_21  x0 x1 x2 s3)))
set_option maxRecDepth 20000 in
theorem g_X12_isOn_21 (l : Launch) (E : wg_E)  (x0 : Nat) (x1 : Int32) (x2 : Int32) (σ : wg_M) (z : Int32 × wg_M) (hx0 : wg_t Sm x0 = 14) (h : f_X12_isOn_21  x0 x1 x2 σ = some z) : wg_G l E Sm "WornWigsModel" cX12_isOn 4 none rm_X12_isOn none z.2 21 [some (.ref x0), some (.int x1), some (.int x2), none] [] σ := by
  refine wr_aload_n (wg_da dt_X12_isOn 14 rfl) rfl ?_
  refine wr_getR wf_X12_7 (wg_da dt_X12_isOn 15 rfl) hx0 ?_
  refine wr_bipush (13 : Int32) (wg_da dt_X12_isOn 16 rfl) (by decide) ?_
  refine wr_iload_n (wg_da dt_X12_isOn 17 rfl) rfl ?_
  refine wr_iadd (wg_da dt_X12_isOn 18 rfl) ?_
  refine wr_iload_n (wg_da dt_X12_isOn 19 rfl) rfl ?_
  refine wr_iconst (1 : Int32) (wg_da dt_X12_isOn 20 rfl) (by decide) ?_
  refine wr_iadd (wg_da dt_X12_isOn 21 rfl) ?_
  refine wr_iast (wg_da dt_X12_isOn 22 rfl) (wg_ty Sm_ok 12 1 0 hx0 rfl (by decide)).2 h (fun s1 h => ?_)
  refine wr_aload_n (wg_da dt_X12_isOn 23 rfl) rfl ?_
  refine wr_getR wf_X12_7 (wg_da dt_X12_isOn 24 rfl) hx0 ?_
  refine wr_bipush (59 : Int32) (wg_da dt_X12_isOn 25 rfl) (by decide) ?_
  refine wr_iload_n (wg_da dt_X12_isOn 26 rfl) rfl ?_
  refine wr_iadd (wg_da dt_X12_isOn 27 rfl) ?_
  refine wr_aload_n (wg_da dt_X12_isOn 28 rfl) rfl ?_
  refine wr_getR wf_X12_7 (wg_da dt_X12_isOn 29 rfl) hx0 ?_
  refine wr_bipush (59 : Int32) (wg_da dt_X12_isOn 30 rfl) (by decide) ?_
  refine wr_iload_n (wg_da dt_X12_isOn 31 rfl) rfl ?_
  refine wr_iadd (wg_da dt_X12_isOn 32 rfl) ?_
  refine wr_iald (wg_da dt_X12_isOn 33 rfl) (wg_ty Sm_ok 12 1 0 hx0 rfl (by decide)).2 h (fun v2 h => ?_)
  refine wr_iconst (1 : Int32) (wg_da dt_X12_isOn 34 rfl) (by decide) ?_
  refine wr_iadd (wg_da dt_X12_isOn 35 rfl) ?_
  refine wr_iast (wg_da dt_X12_isOn 36 rfl) (wg_ty Sm_ok 12 1 0 hx0 rfl (by decide)).2 h (fun s3 h => ?_)
  refine wr_aload_n (wg_da dt_X12_isOn 37 rfl) rfl ?_
  refine wr_iconst (1 : Int32) (wg_da dt_X12_isOn 38 rfl) (by decide) ?_
  refine wr_iload_n (wg_da dt_X12_isOn 39 rfl) rfl ?_
  refine wr_iload_n (wg_da dt_X12_isOn 40 rfl) rfl ?_
  refine wr_callVv [.int (1 : Int32), .int x1, .int x2] [] (wg_da dt_X12_isOn 41 rfl) ⟨wq_8_114, wq_8_116, wq_p7_14⟩ hx0 ⟨rfl, by decide⟩ wy_X12_notes (fun q hq => m_X12_notes l E x0 (1 : Int32) x1 x2 hx0 _ q hq) rfl rfl (Nat.le_of_ble_eq_true rfl) ⟨rfl, rfl, by decide, by decide⟩ h (fun _ s4 h => ?_)
  exact wr_vret (wg_da dt_X12_isOn 42 rfl) h
set_option maxRecDepth 20000 in
theorem g_X12_isOn_e (l : Launch) (E : wg_E)  (x0 : Nat) (x1 : Int32) (x2 : Int32) (σ : wg_M) (z : Int32 × wg_M) (hx0 : wg_t Sm x0 = 14) (h : f_X12_isOn  x0 x1 x2 σ = some z) : wg_G l E Sm "WornWigsModel" cX12_isOn 4 none rm_X12_isOn none z.2 0 [some (.ref x0), some (.int x1), some (.int x2), none] [] σ := by
  refine wr_aload_n (wg_da dt_X12_isOn 0 rfl) rfl ?_
  refine wr_iload_n (wg_da dt_X12_isOn 1 rfl) rfl ?_
  refine wr_callVi [.int x1] [] (wg_da dt_X12_isOn 2 rfl) ⟨wq_8_138, wq_8_140, wq_p8_3⟩ hx0 ⟨rfl, by decide⟩ wy_X12_wearerOf (fun q hq => m_X12_wearerOf l E x0 x1 hx0 _ q hq) rfl rfl (Nat.le_of_ble_eq_true rfl) ⟨rfl, rfl, by decide, by decide⟩ h (fun v1 s2 h => ?_)
  refine wr_istore_n (wg_da dt_X12_isOn 3 rfl) (by decide) ?_
  refine wr_iload_n (wg_da dt_X12_isOn 4 rfl) rfl ?_
  refine wr_iconst (-1 : Int32) (wg_da dt_X12_isOn 5 rfl) (by decide) ?_
  refine wr_icmp_eq 21 (wg_da dt_X12_isOn 6 rfl) (by decide) h (fun h => ?_) (fun h => ?_)
  · exact wr_wk [true, true, true, false] (g_X12_isOn_21 l E  x0 x1 x2 s2 _ hx0  h)
  · refine wr_aload_n (wg_da dt_X12_isOn 7 rfl) rfl ?_
    refine wr_getR wf_X12_7 (wg_da dt_X12_isOn 8 rfl) hx0 ?_
    refine wr_bipush (13 : Int32) (wg_da dt_X12_isOn 9 rfl) (by decide) ?_
    refine wr_iload_n (wg_da dt_X12_isOn 10 rfl) rfl ?_
    refine wr_iadd (wg_da dt_X12_isOn 11 rfl) ?_
    refine wr_iconst (0 : Int32) (wg_da dt_X12_isOn 12 rfl) (by decide) ?_
    refine wr_iast (wg_da dt_X12_isOn 13 rfl) (wg_ty Sm_ok 12 1 0 hx0 rfl (by decide)).2 h (fun s3 h => ?_)
    exact wr_wk [true, true, true, false] (g_X12_isOn_21 l E  x0 x1 x2 s3 _ hx0  h)
theorem m_X12_isOn (l : Launch) (E : wg_E) (x0 : Nat) (x1 : Int32) (x2 : Int32) (hx0 : wg_t Sm x0 = 14) (σ : wg_M) (q : Int32 × wg_M) (h : f_X12_isOn x0 x1 x2 σ = some q) : wg_MG l E Sm yX12_isOn cX12_isOn 4 none rm_X12_isOn [.ref x0, .int x1, .int x2] σ none q.2 :=
  wg_met [.ref x0, .int x1, .int x2] (plainFor_of_name (by decide)) (Nat.le_of_ble_eq_true rfl) (g_X12_isOn_e l E x0 x1 x2 σ q hx0 h)
abbrev rm_X12_combsOut : Room := { frames := 3, cells := 0, slots := 0, locals := 71 }
def tb_X12_combsOut : List (Nat × Instr × Nat) := [(0, .aload_n 0, 1), (1, .iconst 4, 1), (2, .iload_n 1, 1), (3, .aload_n 0, 1), (4, .iload_n 1, 1), (5, .iload_n 2, 1), (6, .invokevirtual 383, 3), (9, .invokevirtual 360, 3), (12, .aload_n 0, 1), (13, .getfield 7, 3), (16, .bipush 67, 2), (18, .iload_n 1, 1), (19, .iadd, 1), (20, .iaload, 1), (21, .iconst 1, 1), (22, .isub, 1), (23, .istore_n 3, 1), (24, .iload_n 3, 1), (25, .ifCond .lt 30, 3), (28, .aload_n 0, 1), (29, .getfield 7, 3), (32, .aload_n 0, 1), (33, .iload_n 1, 1), (34, .iload_n 3, 1), (35, .invokevirtual 138, 3), (38, .iaload, 1), (39, .iload_n 2, 1), (40, .if_icmp .ne 9, 3), (43, .aload_n 0, 1), (44, .iload_n 1, 1), (45, .iload_n 3, 1), (46, .invokevirtual 367, 3), (49, .iinc 3 (-1), 3), (52, .goto (-28), 3), (55, .aload_n 0, 1), (56, .iload_n 1, 1), (57, .invokevirtual 149, 3), (60, .return_, 1)]
theorem dt_X12_combsOut : wg_dc cX12_combsOut tb_X12_combsOut := by unfold wg_dc; decide +kernel
def f_X12_combsOut_49 (k24 : Nat → Int32 → Int32 → Int32 → wg_M → Option (Int32 × wg_M)) (x0 : Nat) (x1 : Int32) (x2 : Int32) (x3 : Int32) (σ : wg_M) : Option (Int32 × wg_M) := wg_let (x3 + (-1 : Int32)) (fun v1 => k24 x0 x1 x2 v1 σ)
def f_X12_combsOut_24  : Nat → Nat → Int32 → Int32 → Int32 → wg_M → Option (Int32 × wg_M)
  | 0, _, _, _, _, _ => none
  | n + 1, x0, x1, x2, x3, σ => if x3 < 0 then (wg_bd (f_X12_itches x0 x1 σ) (fun _ s1 => some (0, s1))) else (wg_bd (f_X12_ruleAt x0 x1 x3 σ) (fun v2 s3 => wg_ga (wg_n Sm (wg_r Sm x0 1)) (s3 (wg_r Sm x0 1)) v2 (fun v4 => if v4 = x2 then (wg_bd (f_X12_goesRule x0 x1 x3 s3) (fun _ s5 => f_X12_combsOut_49 (f_X12_combsOut_24  n) x0 x1 x2 x3 s5)) else (f_X12_combsOut_49 (f_X12_combsOut_24  n) x0 x1 x2 x3 s3))))
def f_X12_combsOut  (x0 : Nat) (x1 : Int32) (x2 : Int32) (σ : wg_M) : Option (Int32 × wg_M) := wg_bd (f_X12_rulesFor x0 x1 x2 σ) (fun v1 s2 => wg_bd (f_X12_notes x0 (4 : Int32) x1 v1 s2) (fun _ s3 => wg_ga (wg_n Sm (wg_r Sm x0 1)) (s3 (wg_r Sm x0 1)) ((67 : Int32) + x1) (fun v4 => wg_let (v4 - (1 : Int32)) (fun v5 => f_X12_combsOut_24  wg_N x0 x1 x2 v5 s3))))
set_option maxRecDepth 20000 in
theorem g_X12_combsOut_49 (l : Launch) (E : wg_E) (k24 : Nat → Int32 → Int32 → Int32 → wg_M → Option (Int32 × wg_M)) (x0 : Nat) (x1 : Int32) (x2 : Int32) (x3 : Int32) (σ : wg_M) (z : Int32 × wg_M) (hx0 : wg_t Sm x0 = 14) (hk24 : ∀ (x0 : Nat) (x1 : Int32) (x2 : Int32) (x3 : Int32) (σ : wg_M), wg_t Sm x0 = 14 → k24 x0 x1 x2 x3 σ = some z → wg_G l E Sm "WornWigsModel" cX12_combsOut 4 none rm_X12_combsOut none z.2 24 [some (.ref x0), some (.int x1), some (.int x2), some (.int x3)] [] σ) (h : f_X12_combsOut_49 k24 x0 x1 x2 x3 σ = some z) : wg_G l E Sm "WornWigsModel" cX12_combsOut 4 none rm_X12_combsOut none z.2 49 [some (.ref x0), some (.int x1), some (.int x2), some (.int x3)] [] σ := by
  refine wr_iinc (c0 := (-1 : Int32)) (wg_da dt_X12_combsOut 32 rfl) rfl (by decide) (by decide) h (fun v1 h => ?_)
  refine wr_goto 24 (wg_da dt_X12_combsOut 33 rfl) (by decide) ?_
  exact wr_wk [true, true, true, true] (hk24 x0 x1 x2 v1 σ hx0 h)
set_option maxRecDepth 20000 in
theorem g_X12_combsOut_24 (l : Launch) (E : wg_E)  (z : Int32 × wg_M) : ∀ (n : Nat) (x0 : Nat) (x1 : Int32) (x2 : Int32) (x3 : Int32) (σ : wg_M) (hx0 : wg_t Sm x0 = 14) (h : f_X12_combsOut_24  n x0 x1 x2 x3 σ = some z), wg_G l E Sm "WornWigsModel" cX12_combsOut 4 none rm_X12_combsOut none z.2 24 [some (.ref x0), some (.int x1), some (.int x2), some (.int x3)] [] σ := by
  intro n
  induction n with
  | zero => intro x0 x1 x2 x3 σ hx0 h; cases h
  | succ n ih =>
    intro x0 x1 x2 x3 σ hx0 h
    refine wr_iload_n (wg_da dt_X12_combsOut 17 rfl) rfl ?_
    refine wr_if_lt 55 (wg_da dt_X12_combsOut 18 rfl) (by decide) h (fun h => ?_) (fun h => ?_)
    · refine wr_aload_n (wg_da dt_X12_combsOut 34 rfl) rfl ?_
      refine wr_iload_n (wg_da dt_X12_combsOut 35 rfl) rfl ?_
      refine wr_callVv [.int x1] [] (wg_da dt_X12_combsOut 36 rfl) ⟨wq_7_110, wq_7_112, wq_p4_7⟩ hx0 ⟨rfl, by decide⟩ wy_X12_itches (fun q hq => m_X12_itches l E x0 x1 hx0 _ q hq) rfl rfl (Nat.le_of_ble_eq_true rfl) ⟨rfl, rfl, by decide, by decide⟩ h (fun _ s1 h => ?_)
      exact wr_vret (wg_da dt_X12_combsOut 37 rfl) h
    · refine wr_aload_n (wg_da dt_X12_combsOut 19 rfl) rfl ?_
      refine wr_getR wf_X12_7 (wg_da dt_X12_combsOut 20 rfl) hx0 ?_
      refine wr_aload_n (wg_da dt_X12_combsOut 21 rfl) rfl ?_
      refine wr_iload_n (wg_da dt_X12_combsOut 22 rfl) rfl ?_
      refine wr_iload_n (wg_da dt_X12_combsOut 23 rfl) rfl ?_
      refine wr_callVi [.int x1, .int x3] [.ref (wg_r Sm x0 1)] (wg_da dt_X12_combsOut 24 rfl) ⟨wq_7_106, wq_7_108, wq_p4_6⟩ hx0 ⟨rfl, by decide⟩ wy_X12_ruleAt (fun q hq => m_X12_ruleAt l E x0 x1 x3 hx0 _ q hq) rfl rfl (Nat.le_of_ble_eq_true rfl) ⟨rfl, rfl, by decide, by decide⟩ h (fun v2 s3 h => ?_)
      refine wr_iald (wg_da dt_X12_combsOut 25 rfl) (wg_ty Sm_ok 12 1 0 hx0 rfl (by decide)).2 h (fun v4 h => ?_)
      refine wr_iload_n (wg_da dt_X12_combsOut 26 rfl) rfl ?_
      refine wr_icmp_ne 49 (wg_da dt_X12_combsOut 27 rfl) (by decide) h (fun h => ?_) (fun h => ?_)
      · refine wr_aload_n (wg_da dt_X12_combsOut 28 rfl) rfl ?_
        refine wr_iload_n (wg_da dt_X12_combsOut 29 rfl) rfl ?_
        refine wr_iload_n (wg_da dt_X12_combsOut 30 rfl) rfl ?_
        refine wr_callVv [.int x1, .int x3] [] (wg_da dt_X12_combsOut 31 rfl) ⟨wq_8_122, wq_8_124, wq_p8_0⟩ hx0 ⟨rfl, by decide⟩ wy_X12_goesRule (fun q hq => m_X12_goesRule l E x0 x1 x3 hx0 _ q hq) rfl rfl (Nat.le_of_ble_eq_true rfl) ⟨rfl, rfl, by decide, by decide⟩ h (fun _ s5 h => ?_)
        exact wr_wk [true, true, true, true] (g_X12_combsOut_49 l E (f_X12_combsOut_24  n) x0 x1 x2 x3 s5 _ hx0 (fun x0 x1 x2 x3 σ hx0 h => ih x0 x1 x2 x3 σ hx0 h) h)
      · exact wr_wk [true, true, true, true] (g_X12_combsOut_49 l E (f_X12_combsOut_24  n) x0 x1 x2 x3 s3 _ hx0 (fun x0 x1 x2 x3 σ hx0 h => ih x0 x1 x2 x3 σ hx0 h) h)
set_option maxRecDepth 20000 in
theorem g_X12_combsOut_e (l : Launch) (E : wg_E)  (x0 : Nat) (x1 : Int32) (x2 : Int32) (σ : wg_M) (z : Int32 × wg_M) (hx0 : wg_t Sm x0 = 14) (h : f_X12_combsOut  x0 x1 x2 σ = some z) : wg_G l E Sm "WornWigsModel" cX12_combsOut 4 none rm_X12_combsOut none z.2 0 [some (.ref x0), some (.int x1), some (.int x2), none] [] σ := by
  refine wr_aload_n (wg_da dt_X12_combsOut 0 rfl) rfl ?_
  refine wr_iconst (4 : Int32) (wg_da dt_X12_combsOut 1 rfl) (by decide) ?_
  refine wr_iload_n (wg_da dt_X12_combsOut 2 rfl) rfl ?_
  refine wr_aload_n (wg_da dt_X12_combsOut 3 rfl) rfl ?_
  refine wr_iload_n (wg_da dt_X12_combsOut 4 rfl) rfl ?_
  refine wr_iload_n (wg_da dt_X12_combsOut 5 rfl) rfl ?_
  refine wr_callVi [.int x1, .int x2] [.int x1, .int (4 : Int32), .ref x0] (wg_da dt_X12_combsOut 6 rfl) ⟨wq_8_142, wq_8_144, wq_p8_4⟩ hx0 ⟨rfl, by decide⟩ wy_X12_rulesFor (fun q hq => m_X12_rulesFor l E x0 x1 x2 hx0 _ q hq) rfl rfl (Nat.le_of_ble_eq_true rfl) ⟨rfl, rfl, by decide, by decide⟩ h (fun v1 s2 h => ?_)
  refine wr_callVv [.int (4 : Int32), .int x1, .int v1] [] (wg_da dt_X12_combsOut 7 rfl) ⟨wq_8_114, wq_8_116, wq_p7_14⟩ hx0 ⟨rfl, by decide⟩ wy_X12_notes (fun q hq => m_X12_notes l E x0 (4 : Int32) x1 v1 hx0 _ q hq) rfl rfl (Nat.le_of_ble_eq_true rfl) ⟨rfl, rfl, by decide, by decide⟩ h (fun _ s3 h => ?_)
  refine wr_aload_n (wg_da dt_X12_combsOut 8 rfl) rfl ?_
  refine wr_getR wf_X12_7 (wg_da dt_X12_combsOut 9 rfl) hx0 ?_
  refine wr_bipush (67 : Int32) (wg_da dt_X12_combsOut 10 rfl) (by decide) ?_
  refine wr_iload_n (wg_da dt_X12_combsOut 11 rfl) rfl ?_
  refine wr_iadd (wg_da dt_X12_combsOut 12 rfl) ?_
  refine wr_iald (wg_da dt_X12_combsOut 13 rfl) (wg_ty Sm_ok 12 1 0 hx0 rfl (by decide)).2 h (fun v4 h => ?_)
  refine wr_iconst (1 : Int32) (wg_da dt_X12_combsOut 14 rfl) (by decide) ?_
  refine wr_isub (wg_da dt_X12_combsOut 15 rfl) ?_
  refine wr_let h (fun v5 h => ?_)
  refine wr_istore_n (wg_da dt_X12_combsOut 16 rfl) (by decide) ?_
  exact wr_wk [true, true, true, true] (g_X12_combsOut_24 l E  _  wg_N x0 x1 x2 v5 s3 hx0 h)
theorem m_X12_combsOut (l : Launch) (E : wg_E) (x0 : Nat) (x1 : Int32) (x2 : Int32) (hx0 : wg_t Sm x0 = 14) (σ : wg_M) (q : Int32 × wg_M) (h : f_X12_combsOut x0 x1 x2 σ = some q) : wg_MG l E Sm yX12_combsOut cX12_combsOut 4 none rm_X12_combsOut [.ref x0, .int x1, .int x2] σ none q.2 :=
  wg_met [.ref x0, .int x1, .int x2] (plainFor_of_name (by decide)) (Nat.le_of_ble_eq_true rfl) (g_X12_combsOut_e l E x0 x1 x2 σ q hx0 h)
abbrev rm_X12_brushes : Room := { frames := 1, cells := 0, slots := 0, locals := 22 }
def tb_X12_brushes : List (Nat × Instr × Nat) := [(0, .aload_n 0, 1), (1, .getfield 7, 3), (4, .bipush 43, 2), (6, .iload_n 1, 1), (7, .iadd, 1), (8, .aload_n 0, 1), (9, .bipush 99, 2), (11, .aload_n 0, 1), (12, .getfield 7, 3), (15, .bipush 43, 2), (17, .iload_n 1, 1), (18, .iadd, 1), (19, .iaload, 1), (20, .iload_n 2, 1), (21, .iadd, 1), (22, .invokevirtual 146, 3), (25, .iastore, 1), (26, .iconst 0, 1), (27, .istore_n 3, 1), (28, .iload_n 3, 1), (29, .aload_n 0, 1), (30, .getfield 7, 3), (33, .bipush 67, 2), (35, .iload_n 1, 1), (36, .iadd, 1), (37, .iaload, 1), (38, .if_icmp .ge 42, 3), (41, .aload_n 0, 1), (42, .getfield 7, 3), (45, .aload_n 0, 1), (46, .iload_n 1, 1), (47, .iload_n 3, 1), (48, .invokevirtual 138, 3), (51, .iconst 2, 1), (52, .iadd, 1), (53, .aload_n 0, 1), (54, .iconst 1, 1), (55, .aload_n 0, 1), (56, .getfield 7, 3), (59, .aload_n 0, 1), (60, .iload_n 1, 1), (61, .iload_n 3, 1), (62, .invokevirtual 138, 3), (65, .iconst 2, 1), (66, .iadd, 1), (67, .iaload, 1), (68, .iconst 1, 1), (69, .isub, 1), (70, .invokevirtual 345, 3), (73, .iastore, 1), (74, .iinc 3 1, 3), (77, .goto (-49), 3), (80, .return_, 1)]
theorem dt_X12_brushes : wg_dc cX12_brushes tb_X12_brushes := by unfold wg_dc; decide +kernel
def f_X12_brushes_28  : Nat → Nat → Int32 → Int32 → wg_M → Option (Int32 × wg_M)
  | 0, _, _, _, _ => none
  | n + 1, x0, x1, x3, σ => wg_ga (wg_n Sm (wg_r Sm x0 1)) (σ (wg_r Sm x0 1)) ((67 : Int32) + x1) (fun v1 => if v1 ≤ x3 then (some (0, σ)) else (wg_bd (f_X12_ruleAt x0 x1 x3 σ) (fun v2 s3 => wg_bd (f_X12_ruleAt x0 x1 x3 s3) (fun v4 s5 => wg_ga (wg_n Sm (wg_r Sm x0 1)) (s5 (wg_r Sm x0 1)) (v4 + (2 : Int32)) (fun v6 => wg_bd (f_X12_greater x0 (1 : Int32) (v6 - (1 : Int32)) s5) (fun v7 s8 => wg_sa (wg_n Sm (wg_r Sm x0 1)) s8 (wg_r Sm x0 1) (v2 + (2 : Int32)) v7 (fun s9 => wg_let (x3 + (1 : Int32)) (fun v10 => f_X12_brushes_28  n x0 x1 v10 s9))))))))
def f_X12_brushes  (x0 : Nat) (x1 : Int32) (x2 : Int32) (σ : wg_M) : Option (Int32 × wg_M) := wg_ga (wg_n Sm (wg_r Sm x0 1)) (σ (wg_r Sm x0 1)) ((43 : Int32) + x1) (fun v1 => wg_bd (f_X12_lesser x0 (99 : Int32) (v1 + x2) σ) (fun v2 s3 => wg_sa (wg_n Sm (wg_r Sm x0 1)) s3 (wg_r Sm x0 1) ((43 : Int32) + x1) v2 (fun s4 => f_X12_brushes_28  wg_N x0 x1 (0 : Int32) s4)))
set_option maxRecDepth 20000 in
theorem g_X12_brushes_28 (l : Launch) (E : wg_E)  (z : Int32 × wg_M) : ∀ (n : Nat) (x0 : Nat) (x1 : Int32) (x3 : Int32) (σ : wg_M) (hx0 : wg_t Sm x0 = 14) (h : f_X12_brushes_28  n x0 x1 x3 σ = some z), wg_G l E Sm "WornWigsModel" cX12_brushes 4 none rm_X12_brushes none z.2 28 [some (.ref x0), some (.int x1), none, some (.int x3)] [] σ := by
  intro n
  induction n with
  | zero => intro x0 x1 x3 σ hx0 h; cases h
  | succ n ih =>
    intro x0 x1 x3 σ hx0 h
    refine wr_iload_n (wg_da dt_X12_brushes 19 rfl) rfl ?_
    refine wr_aload_n (wg_da dt_X12_brushes 20 rfl) rfl ?_
    refine wr_getR wf_X12_7 (wg_da dt_X12_brushes 21 rfl) hx0 ?_
    refine wr_bipush (67 : Int32) (wg_da dt_X12_brushes 22 rfl) (by decide) ?_
    refine wr_iload_n (wg_da dt_X12_brushes 23 rfl) rfl ?_
    refine wr_iadd (wg_da dt_X12_brushes 24 rfl) ?_
    refine wr_iald (wg_da dt_X12_brushes 25 rfl) (wg_ty Sm_ok 12 1 0 hx0 rfl (by decide)).2 h (fun v1 h => ?_)
    refine wr_icmp_ge 80 (wg_da dt_X12_brushes 26 rfl) (by decide) h (fun h => ?_) (fun h => ?_)
    · exact wr_vret (wg_da dt_X12_brushes 52 rfl) h
    · refine wr_aload_n (wg_da dt_X12_brushes 27 rfl) rfl ?_
      refine wr_getR wf_X12_7 (wg_da dt_X12_brushes 28 rfl) hx0 ?_
      refine wr_aload_n (wg_da dt_X12_brushes 29 rfl) rfl ?_
      refine wr_iload_n (wg_da dt_X12_brushes 30 rfl) rfl ?_
      refine wr_iload_n (wg_da dt_X12_brushes 31 rfl) rfl ?_
      refine wr_callVi [.int x1, .int x3] [.ref (wg_r Sm x0 1)] (wg_da dt_X12_brushes 32 rfl) ⟨wq_7_106, wq_7_108, wq_p4_6⟩ hx0 ⟨rfl, by decide⟩ wy_X12_ruleAt (fun q hq => m_X12_ruleAt l E x0 x1 x3 hx0 _ q hq) rfl rfl (Nat.le_of_ble_eq_true rfl) ⟨rfl, rfl, by decide, by decide⟩ h (fun v2 s3 h => ?_)
      refine wr_iconst (2 : Int32) (wg_da dt_X12_brushes 33 rfl) (by decide) ?_
      refine wr_iadd (wg_da dt_X12_brushes 34 rfl) ?_
      refine wr_aload_n (wg_da dt_X12_brushes 35 rfl) rfl ?_
      refine wr_iconst (1 : Int32) (wg_da dt_X12_brushes 36 rfl) (by decide) ?_
      refine wr_aload_n (wg_da dt_X12_brushes 37 rfl) rfl ?_
      refine wr_getR wf_X12_7 (wg_da dt_X12_brushes 38 rfl) hx0 ?_
      refine wr_aload_n (wg_da dt_X12_brushes 39 rfl) rfl ?_
      refine wr_iload_n (wg_da dt_X12_brushes 40 rfl) rfl ?_
      refine wr_iload_n (wg_da dt_X12_brushes 41 rfl) rfl ?_
      refine wr_callVi [.int x1, .int x3] [.ref (wg_r Sm x0 1), .int (1 : Int32), .ref x0, .int (v2 + (2 : Int32)), .ref (wg_r Sm x0 1)] (wg_da dt_X12_brushes 42 rfl) ⟨wq_7_106, wq_7_108, wq_p4_6⟩ hx0 ⟨rfl, by decide⟩ wy_X12_ruleAt (fun q hq => m_X12_ruleAt l E x0 x1 x3 hx0 _ q hq) rfl rfl (Nat.le_of_ble_eq_true rfl) ⟨rfl, rfl, by decide, by decide⟩ h (fun v4 s5 h => ?_)
      refine wr_iconst (2 : Int32) (wg_da dt_X12_brushes 43 rfl) (by decide) ?_
      refine wr_iadd (wg_da dt_X12_brushes 44 rfl) ?_
      refine wr_iald (wg_da dt_X12_brushes 45 rfl) (wg_ty Sm_ok 12 1 0 hx0 rfl (by decide)).2 h (fun v6 h => ?_)
      refine wr_iconst (1 : Int32) (wg_da dt_X12_brushes 46 rfl) (by decide) ?_
      refine wr_isub (wg_da dt_X12_brushes 47 rfl) ?_
      refine wr_callVi [.int (1 : Int32), .int (v6 - (1 : Int32))] [.int (v2 + (2 : Int32)), .ref (wg_r Sm x0 1)] (wg_da dt_X12_brushes 48 rfl) ⟨wq_8_162, wq_8_164, wq_p8_9⟩ hx0 ⟨rfl, by decide⟩ wy_X12_greater (fun q hq => m_X12_greater l E x0 (1 : Int32) (v6 - (1 : Int32)) hx0 _ q hq) rfl rfl (Nat.le_of_ble_eq_true rfl) ⟨rfl, rfl, by decide, by decide⟩ h (fun v7 s8 h => ?_)
      refine wr_iast (wg_da dt_X12_brushes 49 rfl) (wg_ty Sm_ok 12 1 0 hx0 rfl (by decide)).2 h (fun s9 h => ?_)
      refine wr_iinc (c0 := (1 : Int32)) (wg_da dt_X12_brushes 50 rfl) rfl (by decide) (by decide) h (fun v10 h => ?_)
      refine wr_goto 28 (wg_da dt_X12_brushes 51 rfl) (by decide) ?_
      exact wr_wk [true, true, false, true] (ih x0 x1 v10 s9 hx0 h)
set_option maxRecDepth 20000 in
theorem g_X12_brushes_e (l : Launch) (E : wg_E)  (x0 : Nat) (x1 : Int32) (x2 : Int32) (σ : wg_M) (z : Int32 × wg_M) (hx0 : wg_t Sm x0 = 14) (h : f_X12_brushes  x0 x1 x2 σ = some z) : wg_G l E Sm "WornWigsModel" cX12_brushes 4 none rm_X12_brushes none z.2 0 [some (.ref x0), some (.int x1), some (.int x2), none] [] σ := by
  refine wr_aload_n (wg_da dt_X12_brushes 0 rfl) rfl ?_
  refine wr_getR wf_X12_7 (wg_da dt_X12_brushes 1 rfl) hx0 ?_
  refine wr_bipush (43 : Int32) (wg_da dt_X12_brushes 2 rfl) (by decide) ?_
  refine wr_iload_n (wg_da dt_X12_brushes 3 rfl) rfl ?_
  refine wr_iadd (wg_da dt_X12_brushes 4 rfl) ?_
  refine wr_aload_n (wg_da dt_X12_brushes 5 rfl) rfl ?_
  refine wr_bipush (99 : Int32) (wg_da dt_X12_brushes 6 rfl) (by decide) ?_
  refine wr_aload_n (wg_da dt_X12_brushes 7 rfl) rfl ?_
  refine wr_getR wf_X12_7 (wg_da dt_X12_brushes 8 rfl) hx0 ?_
  refine wr_bipush (43 : Int32) (wg_da dt_X12_brushes 9 rfl) (by decide) ?_
  refine wr_iload_n (wg_da dt_X12_brushes 10 rfl) rfl ?_
  refine wr_iadd (wg_da dt_X12_brushes 11 rfl) ?_
  refine wr_iald (wg_da dt_X12_brushes 12 rfl) (wg_ty Sm_ok 12 1 0 hx0 rfl (by decide)).2 h (fun v1 h => ?_)
  refine wr_iload_n (wg_da dt_X12_brushes 13 rfl) rfl ?_
  refine wr_iadd (wg_da dt_X12_brushes 14 rfl) ?_
  refine wr_callVi [.int (99 : Int32), .int (v1 + x2)] [.int ((43 : Int32) + x1), .ref (wg_r Sm x0 1)] (wg_da dt_X12_brushes 15 rfl) ⟨wq_7_118, wq_7_120, wq_p4_9⟩ hx0 ⟨rfl, by decide⟩ wy_X12_lesser (fun q hq => m_X12_lesser l E x0 (99 : Int32) (v1 + x2) hx0 _ q hq) rfl rfl (Nat.le_of_ble_eq_true rfl) ⟨rfl, rfl, by decide, by decide⟩ h (fun v2 s3 h => ?_)
  refine wr_iast (wg_da dt_X12_brushes 16 rfl) (wg_ty Sm_ok 12 1 0 hx0 rfl (by decide)).2 h (fun s4 h => ?_)
  refine wr_iconst (0 : Int32) (wg_da dt_X12_brushes 17 rfl) (by decide) ?_
  refine wr_istore_n (wg_da dt_X12_brushes 18 rfl) (by decide) ?_
  exact wr_wk [true, true, false, true] (g_X12_brushes_28 l E  _  wg_N x0 x1 (0 : Int32) s4 hx0 h)
theorem m_X12_brushes (l : Launch) (E : wg_E) (x0 : Nat) (x1 : Int32) (x2 : Int32) (hx0 : wg_t Sm x0 = 14) (σ : wg_M) (q : Int32 × wg_M) (h : f_X12_brushes x0 x1 x2 σ = some q) : wg_MG l E Sm yX12_brushes cX12_brushes 4 none rm_X12_brushes [.ref x0, .int x1, .int x2] σ none q.2 :=
  wg_met [.ref x0, .int x1, .int x2] (plainFor_of_name (by decide)) (Nat.le_of_ble_eq_true rfl) (g_X12_brushes_e l E x0 x1 x2 σ q hx0 h)
abbrev rm_X12_acts : Room := { frames := 4, cells := 0, slots := 0, locals := 94 }
def tb_X12_acts : List (Nat × Instr × Nat) := [(0, .iload_n 1, 1), (1, .ifCond .ne 9, 3), (4, .aload_n 0, 1), (5, .iload_n 2, 1), (6, .iload_n 3, 1), (7, .invokevirtual 386, 3), (10, .iload_n 1, 1), (11, .iconst 1, 1), (12, .if_icmp .ne 17, 3), (15, .aload_n 0, 1), (16, .getfield 7, 3), (19, .bipush 13, 2), (21, .aload_n 0, 1), (22, .iload_n 2, 1), (23, .invokevirtual 380, 3), (26, .iadd, 1), (27, .iconst 0, 1), (28, .iastore, 1), (29, .iload_n 1, 1), (30, .iconst 2, 1), (31, .if_icmp .ne 9, 3), (34, .aload_n 0, 1), (35, .iload_n 2, 1), (36, .iload_n 3, 1), (37, .invokevirtual 389, 3), (40, .iload_n 1, 1), (41, .iconst 3, 1), (42, .if_icmp .ne 9, 3), (45, .aload_n 0, 1), (46, .iload_n 2, 1), (47, .iload_n 3, 1), (48, .invokevirtual 392, 3), (51, .return_, 1)]
theorem dt_X12_acts : wg_dc cX12_acts tb_X12_acts := by unfold wg_dc; decide +kernel
def f_X12_acts_40  (x0 : Nat) (x1 : Int32) (x2 : Int32) (x3 : Int32) (σ : wg_M) : Option (Int32 × wg_M) := if x1 = (3 : Int32) then (wg_bd (f_X12_brushes x0 x2 x3 σ) (fun _ s1 => some (0, s1))) else (some (0, σ))
def f_X12_acts_29  (x0 : Nat) (x1 : Int32) (x2 : Int32) (x3 : Int32) (σ : wg_M) : Option (Int32 × wg_M) := if x1 = (2 : Int32) then (wg_bd (f_X12_combsOut x0 x2 x3 σ) (fun _ s1 => f_X12_acts_40  x0 x1 x2 x3 s1)) else (f_X12_acts_40  x0 x1 x2 x3 σ)
def f_X12_acts_10  (x0 : Nat) (x1 : Int32) (x2 : Int32) (x3 : Int32) (σ : wg_M) : Option (Int32 × wg_M) := if x1 = (1 : Int32) then (wg_bd (f_X12_wearerOf x0 x2 σ) (fun v1 s2 => wg_sa (wg_n Sm (wg_r Sm x0 1)) s2 (wg_r Sm x0 1) ((13 : Int32) + v1) (0 : Int32) (fun s3 => f_X12_acts_29  x0 x1 x2 x3 s3))) else (f_X12_acts_29  x0 x1 x2 x3 σ)
def f_X12_acts  (x0 : Nat) (x1 : Int32) (x2 : Int32) (x3 : Int32) (σ : wg_M) : Option (Int32 × wg_M) := if x1 = 0 then (wg_bd (f_X12_isOn x0 x2 x3 σ) (fun _ s1 => f_X12_acts_10  x0 x1 x2 x3 s1)) else (f_X12_acts_10  x0 x1 x2 x3 σ)
set_option maxRecDepth 20000 in
theorem g_X12_acts_40 (l : Launch) (E : wg_E)  (x0 : Nat) (x1 : Int32) (x2 : Int32) (x3 : Int32) (σ : wg_M) (z : Int32 × wg_M) (hx0 : wg_t Sm x0 = 14) (h : f_X12_acts_40  x0 x1 x2 x3 σ = some z) : wg_G l E Sm "WornWigsModel" cX12_acts 4 none rm_X12_acts none z.2 40 [some (.ref x0), some (.int x1), some (.int x2), some (.int x3)] [] σ := by
  refine wr_iload_n (wg_da dt_X12_acts 25 rfl) rfl ?_
  refine wr_iconst (3 : Int32) (wg_da dt_X12_acts 26 rfl) (by decide) ?_
  refine wr_icmp_ne 51 (wg_da dt_X12_acts 27 rfl) (by decide) h (fun h => ?_) (fun h => ?_)
  · refine wr_aload_n (wg_da dt_X12_acts 28 rfl) rfl ?_
    refine wr_iload_n (wg_da dt_X12_acts 29 rfl) rfl ?_
    refine wr_iload_n (wg_da dt_X12_acts 30 rfl) rfl ?_
    refine wr_callVv [.int x2, .int x3] [] (wg_da dt_X12_acts 31 rfl) ⟨wq_8_158, wq_8_160, wq_p8_8⟩ hx0 ⟨rfl, by decide⟩ wy_X12_brushes (fun q hq => m_X12_brushes l E x0 x2 x3 hx0 _ q hq) rfl rfl (Nat.le_of_ble_eq_true rfl) ⟨rfl, rfl, by decide, by decide⟩ h (fun _ s1 h => ?_)
    exact wr_vret (wg_da dt_X12_acts 32 rfl) h
  · exact wr_vret (wg_da dt_X12_acts 32 rfl) h
set_option maxRecDepth 20000 in
theorem g_X12_acts_29 (l : Launch) (E : wg_E)  (x0 : Nat) (x1 : Int32) (x2 : Int32) (x3 : Int32) (σ : wg_M) (z : Int32 × wg_M) (hx0 : wg_t Sm x0 = 14) (h : f_X12_acts_29  x0 x1 x2 x3 σ = some z) : wg_G l E Sm "WornWigsModel" cX12_acts 4 none rm_X12_acts none z.2 29 [some (.ref x0), some (.int x1), some (.int x2), some (.int x3)] [] σ := by
  refine wr_iload_n (wg_da dt_X12_acts 18 rfl) rfl ?_
  refine wr_iconst (2 : Int32) (wg_da dt_X12_acts 19 rfl) (by decide) ?_
  refine wr_icmp_ne 40 (wg_da dt_X12_acts 20 rfl) (by decide) h (fun h => ?_) (fun h => ?_)
  · refine wr_aload_n (wg_da dt_X12_acts 21 rfl) rfl ?_
    refine wr_iload_n (wg_da dt_X12_acts 22 rfl) rfl ?_
    refine wr_iload_n (wg_da dt_X12_acts 23 rfl) rfl ?_
    refine wr_callVv [.int x2, .int x3] [] (wg_da dt_X12_acts 24 rfl) ⟨wq_8_154, wq_8_156, wq_p8_7⟩ hx0 ⟨rfl, by decide⟩ wy_X12_combsOut (fun q hq => m_X12_combsOut l E x0 x2 x3 hx0 _ q hq) rfl rfl (Nat.le_of_ble_eq_true rfl) ⟨rfl, rfl, by decide, by decide⟩ h (fun _ s1 h => ?_)
    exact wr_wk [true, true, true, true] (g_X12_acts_40 l E  x0 x1 x2 x3 s1 _ hx0  h)
  · exact wr_wk [true, true, true, true] (g_X12_acts_40 l E  x0 x1 x2 x3 σ _ hx0  h)
set_option maxRecDepth 20000 in
theorem g_X12_acts_10 (l : Launch) (E : wg_E)  (x0 : Nat) (x1 : Int32) (x2 : Int32) (x3 : Int32) (σ : wg_M) (z : Int32 × wg_M) (hx0 : wg_t Sm x0 = 14) (h : f_X12_acts_10  x0 x1 x2 x3 σ = some z) : wg_G l E Sm "WornWigsModel" cX12_acts 4 none rm_X12_acts none z.2 10 [some (.ref x0), some (.int x1), some (.int x2), some (.int x3)] [] σ := by
  refine wr_iload_n (wg_da dt_X12_acts 6 rfl) rfl ?_
  refine wr_iconst (1 : Int32) (wg_da dt_X12_acts 7 rfl) (by decide) ?_
  refine wr_icmp_ne 29 (wg_da dt_X12_acts 8 rfl) (by decide) h (fun h => ?_) (fun h => ?_)
  · refine wr_aload_n (wg_da dt_X12_acts 9 rfl) rfl ?_
    refine wr_getR wf_X12_7 (wg_da dt_X12_acts 10 rfl) hx0 ?_
    refine wr_bipush (13 : Int32) (wg_da dt_X12_acts 11 rfl) (by decide) ?_
    refine wr_aload_n (wg_da dt_X12_acts 12 rfl) rfl ?_
    refine wr_iload_n (wg_da dt_X12_acts 13 rfl) rfl ?_
    refine wr_callVi [.int x2] [.int (13 : Int32), .ref (wg_r Sm x0 1)] (wg_da dt_X12_acts 14 rfl) ⟨wq_8_138, wq_8_140, wq_p8_3⟩ hx0 ⟨rfl, by decide⟩ wy_X12_wearerOf (fun q hq => m_X12_wearerOf l E x0 x2 hx0 _ q hq) rfl rfl (Nat.le_of_ble_eq_true rfl) ⟨rfl, rfl, by decide, by decide⟩ h (fun v1 s2 h => ?_)
    refine wr_iadd (wg_da dt_X12_acts 15 rfl) ?_
    refine wr_iconst (0 : Int32) (wg_da dt_X12_acts 16 rfl) (by decide) ?_
    refine wr_iast (wg_da dt_X12_acts 17 rfl) (wg_ty Sm_ok 12 1 0 hx0 rfl (by decide)).2 h (fun s3 h => ?_)
    exact wr_wk [true, true, true, true] (g_X12_acts_29 l E  x0 x1 x2 x3 s3 _ hx0  h)
  · exact wr_wk [true, true, true, true] (g_X12_acts_29 l E  x0 x1 x2 x3 σ _ hx0  h)
set_option maxRecDepth 20000 in
theorem g_X12_acts_e (l : Launch) (E : wg_E)  (x0 : Nat) (x1 : Int32) (x2 : Int32) (x3 : Int32) (σ : wg_M) (z : Int32 × wg_M) (hx0 : wg_t Sm x0 = 14) (h : f_X12_acts  x0 x1 x2 x3 σ = some z) : wg_G l E Sm "WornWigsModel" cX12_acts 4 none rm_X12_acts none z.2 0 [some (.ref x0), some (.int x1), some (.int x2), some (.int x3)] [] σ := by
  refine wr_iload_n (wg_da dt_X12_acts 0 rfl) rfl ?_
  refine wr_if_ne 10 (wg_da dt_X12_acts 1 rfl) (by decide) h (fun h => ?_) (fun h => ?_)
  · refine wr_aload_n (wg_da dt_X12_acts 2 rfl) rfl ?_
    refine wr_iload_n (wg_da dt_X12_acts 3 rfl) rfl ?_
    refine wr_iload_n (wg_da dt_X12_acts 4 rfl) rfl ?_
    refine wr_callVv [.int x2, .int x3] [] (wg_da dt_X12_acts 5 rfl) ⟨wq_8_150, wq_8_152, wq_p8_6⟩ hx0 ⟨rfl, by decide⟩ wy_X12_isOn (fun q hq => m_X12_isOn l E x0 x2 x3 hx0 _ q hq) rfl rfl (Nat.le_of_ble_eq_true rfl) ⟨rfl, rfl, by decide, by decide⟩ h (fun _ s1 h => ?_)
    exact wr_wk [true, true, true, true] (g_X12_acts_10 l E  x0 x1 x2 x3 s1 _ hx0  h)
  · exact wr_wk [true, true, true, true] (g_X12_acts_10 l E  x0 x1 x2 x3 σ _ hx0  h)
theorem m_X12_acts (l : Launch) (E : wg_E) (x0 : Nat) (x1 : Int32) (x2 : Int32) (x3 : Int32) (hx0 : wg_t Sm x0 = 14) (σ : wg_M) (q : Int32 × wg_M) (h : f_X12_acts x0 x1 x2 x3 σ = some q) : wg_MG l E Sm yX12_acts cX12_acts 4 none rm_X12_acts [.ref x0, .int x1, .int x2, .int x3] σ none q.2 :=
  wg_met [.ref x0, .int x1, .int x2, .int x3] (plainFor_of_name (by decide)) (Nat.le_of_ble_eq_true rfl) (g_X12_acts_e l E x0 x1 x2 x3 σ q hx0 h)
abbrev rm_X12_isWorth : Room := { frames := 1, cells := 0, slots := 0, locals := 23 }
def tb_X12_isWorth : List (Nat × Instr × Nat) := [(0, .iload_n 1, 1), (1, .ifCond .ne 9, 3), (4, .aload_n 0, 1), (5, .iload_n 2, 1), (6, .invokevirtual 164, 3), (9, .ireturn, 1), (10, .iload_n 1, 1), (11, .iconst 2, 1), (12, .if_icmp .ne 12, 3), (15, .aload_n 0, 1), (16, .iload_n 2, 1), (17, .iconst 0, 1), (18, .bipush 7, 2), (20, .invokevirtual 153, 3), (23, .ireturn, 1), (24, .iload_n 1, 1), (25, .iconst 1, 1), (26, .if_icmp .eq 14, 3), (29, .aload_n 0, 1), (30, .iload_n 2, 1), (31, .iconst 1, 1), (32, .bipush 99, 2), (34, .invokevirtual 153, 3), (37, .ifCond .eq 7, 3), (40, .iconst 1, 1), (41, .goto 4, 3), (44, .iconst 0, 1), (45, .ireturn, 1)]
theorem dt_X12_isWorth : wg_dc cX12_isWorth tb_X12_isWorth := by unfold wg_dc; decide +kernel
def f_X12_isWorth_40   (σ : wg_M) : Option (Int32 × wg_M) := some ((1 : Int32), σ)
def f_X12_isWorth  (x0 : Nat) (x1 : Int32) (x2 : Int32) (σ : wg_M) : Option (Int32 × wg_M) := if x1 = 0 then (wg_bd (f_X12_isJudge x0 x2 σ) (fun v5 s6 => wg_bz v5 (some (v5, s6)))) else (if x1 = (2 : Int32) then (wg_bd (f_X12_isIn x0 x2 (0 : Int32) (7 : Int32) σ) (fun v3 s4 => wg_bz v3 (some (v3, s4)))) else (if x1 = (1 : Int32) then (f_X12_isWorth_40   σ) else (wg_bd (f_X12_isIn x0 x2 (1 : Int32) (99 : Int32) σ) (fun v1 s2 => if v1 = 0 then (some ((0 : Int32), s2)) else (f_X12_isWorth_40   s2)))))
set_option maxRecDepth 20000 in
theorem g_X12_isWorth_40 (l : Launch) (E : wg_E)   (σ : wg_M) (z : Int32 × wg_M)  (h : f_X12_isWorth_40   σ = some z) : wg_G l E Sm "WornWigsModel" cX12_isWorth 3 (some .boolean) rm_X12_isWorth (some z.1) z.2 40 [none, none, none] [] σ := by
  refine wr_iconst (1 : Int32) (wg_da dt_X12_isWorth 24 rfl) (by decide) ?_
  refine wr_goto 45 (wg_da dt_X12_isWorth 25 rfl) (by decide) ?_
  exact wr_zret1 (wg_da dt_X12_isWorth 27 rfl) h
set_option maxRecDepth 20000 in
theorem g_X12_isWorth_e (l : Launch) (E : wg_E)  (x0 : Nat) (x1 : Int32) (x2 : Int32) (σ : wg_M) (z : Int32 × wg_M) (hx0 : wg_t Sm x0 = 14) (h : f_X12_isWorth  x0 x1 x2 σ = some z) : wg_G l E Sm "WornWigsModel" cX12_isWorth 3 (some .boolean) rm_X12_isWorth (some z.1) z.2 0 [some (.ref x0), some (.int x1), some (.int x2)] [] σ := by
  refine wr_iload_n (wg_da dt_X12_isWorth 0 rfl) rfl ?_
  refine wr_if_ne 10 (wg_da dt_X12_isWorth 1 rfl) (by decide) h (fun h => ?_) (fun h => ?_)
  · refine wr_aload_n (wg_da dt_X12_isWorth 2 rfl) rfl ?_
    refine wr_iload_n (wg_da dt_X12_isWorth 3 rfl) rfl ?_
    refine wr_callVi [.int x2] [] (wg_da dt_X12_isWorth 4 rfl) ⟨wq_7_130, wq_7_132, wq_p4_11⟩ hx0 ⟨rfl, by decide⟩ wy_X12_isJudge (fun q hq => m_X12_isJudge l E x0 x2 hx0 _ q hq) rfl rfl (Nat.le_of_ble_eq_true rfl) ⟨rfl, rfl, by decide, by decide⟩ h (fun v5 s6 h => ?_)
    exact wr_zret (wg_da dt_X12_isWorth 5 rfl) h
  · refine wr_iload_n (wg_da dt_X12_isWorth 6 rfl) rfl ?_
    refine wr_iconst (2 : Int32) (wg_da dt_X12_isWorth 7 rfl) (by decide) ?_
    refine wr_icmp_ne 24 (wg_da dt_X12_isWorth 8 rfl) (by decide) h (fun h => ?_) (fun h => ?_)
    · refine wr_aload_n (wg_da dt_X12_isWorth 9 rfl) rfl ?_
      refine wr_iload_n (wg_da dt_X12_isWorth 10 rfl) rfl ?_
      refine wr_iconst (0 : Int32) (wg_da dt_X12_isWorth 11 rfl) (by decide) ?_
      refine wr_bipush (7 : Int32) (wg_da dt_X12_isWorth 12 rfl) (by decide) ?_
      refine wr_callVi [.int x2, .int (0 : Int32), .int (7 : Int32)] [] (wg_da dt_X12_isWorth 13 rfl) ⟨wq_7_82, wq_7_84, wq_p4_3⟩ hx0 ⟨rfl, by decide⟩ wy_X12_isIn (fun q hq => m_X12_isIn l E x0 x2 (0 : Int32) (7 : Int32) hx0 _ q hq) rfl rfl (Nat.le_of_ble_eq_true rfl) ⟨rfl, rfl, by decide, by decide⟩ h (fun v3 s4 h => ?_)
      exact wr_zret (wg_da dt_X12_isWorth 14 rfl) h
    · refine wr_iload_n (wg_da dt_X12_isWorth 15 rfl) rfl ?_
      refine wr_iconst (1 : Int32) (wg_da dt_X12_isWorth 16 rfl) (by decide) ?_
      refine wr_icmp_eq 40 (wg_da dt_X12_isWorth 17 rfl) (by decide) h (fun h => ?_) (fun h => ?_)
      · exact wr_wk [false, false, false] (g_X12_isWorth_40 l E   σ _   h)
      · refine wr_aload_n (wg_da dt_X12_isWorth 18 rfl) rfl ?_
        refine wr_iload_n (wg_da dt_X12_isWorth 19 rfl) rfl ?_
        refine wr_iconst (1 : Int32) (wg_da dt_X12_isWorth 20 rfl) (by decide) ?_
        refine wr_bipush (99 : Int32) (wg_da dt_X12_isWorth 21 rfl) (by decide) ?_
        refine wr_callVi [.int x2, .int (1 : Int32), .int (99 : Int32)] [] (wg_da dt_X12_isWorth 22 rfl) ⟨wq_7_82, wq_7_84, wq_p4_3⟩ hx0 ⟨rfl, by decide⟩ wy_X12_isIn (fun q hq => m_X12_isIn l E x0 x2 (1 : Int32) (99 : Int32) hx0 _ q hq) rfl rfl (Nat.le_of_ble_eq_true rfl) ⟨rfl, rfl, by decide, by decide⟩ h (fun v1 s2 h => ?_)
        refine wr_if_eq 44 (wg_da dt_X12_isWorth 23 rfl) (by decide) h (fun h => ?_) (fun h => ?_)
        · refine wr_iconst (0 : Int32) (wg_da dt_X12_isWorth 26 rfl) (by decide) ?_
          exact wr_zret0 (wg_da dt_X12_isWorth 27 rfl) h
        · exact wr_wk [false, false, false] (g_X12_isWorth_40 l E   s2 _   h)
theorem m_X12_isWorth (l : Launch) (E : wg_E) (x0 : Nat) (x1 : Int32) (x2 : Int32) (hx0 : wg_t Sm x0 = 14) (σ : wg_M) (q : Int32 × wg_M) (h : f_X12_isWorth x0 x1 x2 σ = some q) : wg_MG l E Sm yX12_isWorth cX12_isWorth 3 (some .boolean) rm_X12_isWorth [.ref x0, .int x1, .int x2] σ (some q.1) q.2 :=
  wg_met [.ref x0, .int x1, .int x2] (plainFor_of_name (by decide)) (Nat.le_of_ble_eq_true rfl) (g_X12_isWorth_e l E x0 x1 x2 σ q hx0 h)
abbrev rm_X12_act : Room := { frames := 5, cells := 0, slots := 0, locals := 117 }
def tb_X12_act : List (Nat × Instr × Nat) := [(0, .aload_n 0, 1), (1, .iconst 0, 1), (2, .putfield 113, 3), (5, .aload_n 0, 1), (6, .iload_n 1, 1), (7, .iconst 0, 1), (8, .iconst 3, 1), (9, .invokevirtual 153, 3), (12, .ifCond .eq 30, 3), (15, .aload_n 0, 1), (16, .iload_n 2, 1), (17, .invokevirtual 156, 3), (20, .ifCond .eq 22, 3), (23, .aload_n 0, 1), (24, .iload_n 1, 1), (25, .iload_n 3, 1), (26, .invokevirtual 395, 3), (29, .ifCond .eq 13, 3), (32, .aload_n 0, 1), (33, .iload_n 1, 1), (34, .iload_n 2, 1), (35, .iload_n 3, 1), (36, .invokevirtual 398, 3), (39, .ifCond .ne 5, 3), (42, .iconst 0, 1), (43, .ireturn, 1), (44, .aload_n 0, 1), (45, .invokevirtual 374, 3), (48, .aload_n 0, 1), (49, .iload_n 1, 1), (50, .iload_n 2, 1), (51, .iload_n 3, 1), (52, .invokevirtual 401, 3), (55, .iconst 1, 1), (56, .ireturn, 1)]
theorem dt_X12_act : wg_dc cX12_act tb_X12_act := by unfold wg_dc; decide +kernel
def f_X12_act  (x0 : Nat) (x1 : Int32) (x2 : Int32) (x3 : Int32) (σ : wg_M) : Option (Int32 × wg_M) := wg_st σ x0 0 (0 : Int32) (fun s1 => wg_bd (f_X12_isIn x0 x1 (0 : Int32) (3 : Int32) s1) (fun v2 s3 => if v2 = 0 then (some ((0 : Int32), s3)) else (wg_bd (f_X12_isWig x0 x2 s3) (fun v4 s5 => if v4 = 0 then (some ((0 : Int32), s5)) else (wg_bd (f_X12_isWorth x0 x1 x3 s5) (fun v6 s7 => if v6 = 0 then (some ((0 : Int32), s7)) else (wg_bd (f_X12_canAct x0 x1 x2 x3 s7) (fun v8 s9 => if v8 = 0 then (some ((0 : Int32), s9)) else (wg_bd (f_X12_keepsAhead x0 s9) (fun _ s10 => wg_bd (f_X12_acts x0 x1 x2 x3 s10) (fun _ s11 => some ((1 : Int32), s11))))))))))))
set_option maxRecDepth 20000 in
theorem g_X12_act_e (l : Launch) (E : wg_E)  (x0 : Nat) (x1 : Int32) (x2 : Int32) (x3 : Int32) (σ : wg_M) (z : Int32 × wg_M) (hx0 : wg_t Sm x0 = 14) (h : f_X12_act  x0 x1 x2 x3 σ = some z) : wg_G l E Sm "WornWigsModel" cX12_act 4 (some .boolean) rm_X12_act (some z.1) z.2 0 [some (.ref x0), some (.int x1), some (.int x2), some (.int x3)] [] σ := by
  refine wr_aload_n (wg_da dt_X12_act 0 rfl) rfl ?_
  refine wr_iconst (0 : Int32) (wg_da dt_X12_act 1 rfl) (by decide) ?_
  refine wr_putI wfp_X12_113 (wg_da dt_X12_act 2 rfl) hx0 h (fun s1 h => ?_)
  refine wr_aload_n (wg_da dt_X12_act 3 rfl) rfl ?_
  refine wr_iload_n (wg_da dt_X12_act 4 rfl) rfl ?_
  refine wr_iconst (0 : Int32) (wg_da dt_X12_act 5 rfl) (by decide) ?_
  refine wr_iconst (3 : Int32) (wg_da dt_X12_act 6 rfl) (by decide) ?_
  refine wr_callVi [.int x1, .int (0 : Int32), .int (3 : Int32)] [] (wg_da dt_X12_act 7 rfl) ⟨wq_7_82, wq_7_84, wq_p4_3⟩ hx0 ⟨rfl, by decide⟩ wy_X12_isIn (fun q hq => m_X12_isIn l E x0 x1 (0 : Int32) (3 : Int32) hx0 _ q hq) rfl rfl (Nat.le_of_ble_eq_true rfl) ⟨rfl, rfl, by decide, by decide⟩ h (fun v2 s3 h => ?_)
  refine wr_if_eq 42 (wg_da dt_X12_act 8 rfl) (by decide) h (fun h => ?_) (fun h => ?_)
  · refine wr_iconst (0 : Int32) (wg_da dt_X12_act 24 rfl) (by decide) ?_
    exact wr_zret0 (wg_da dt_X12_act 25 rfl) h
  · refine wr_aload_n (wg_da dt_X12_act 9 rfl) rfl ?_
    refine wr_iload_n (wg_da dt_X12_act 10 rfl) rfl ?_
    refine wr_callVi [.int x2] [] (wg_da dt_X12_act 11 rfl) ⟨wq_7_98, wq_7_100, wq_p4_4⟩ hx0 ⟨rfl, by decide⟩ wy_X12_isWig (fun q hq => m_X12_isWig l E x0 x2 hx0 _ q hq) rfl rfl (Nat.le_of_ble_eq_true rfl) ⟨rfl, rfl, by decide, by decide⟩ h (fun v4 s5 h => ?_)
    refine wr_if_eq 42 (wg_da dt_X12_act 12 rfl) (by decide) h (fun h => ?_) (fun h => ?_)
    · refine wr_iconst (0 : Int32) (wg_da dt_X12_act 24 rfl) (by decide) ?_
      exact wr_zret0 (wg_da dt_X12_act 25 rfl) h
    · refine wr_aload_n (wg_da dt_X12_act 13 rfl) rfl ?_
      refine wr_iload_n (wg_da dt_X12_act 14 rfl) rfl ?_
      refine wr_iload_n (wg_da dt_X12_act 15 rfl) rfl ?_
      refine wr_callVi [.int x1, .int x3] [] (wg_da dt_X12_act 16 rfl) ⟨wq_8_130, wq_8_132, wq_p8_1⟩ hx0 ⟨rfl, by decide⟩ wy_X12_isWorth (fun q hq => m_X12_isWorth l E x0 x1 x3 hx0 _ q hq) rfl rfl (Nat.le_of_ble_eq_true rfl) ⟨rfl, rfl, by decide, by decide⟩ h (fun v6 s7 h => ?_)
      refine wr_if_eq 42 (wg_da dt_X12_act 17 rfl) (by decide) h (fun h => ?_) (fun h => ?_)
      · refine wr_iconst (0 : Int32) (wg_da dt_X12_act 24 rfl) (by decide) ?_
        exact wr_zret0 (wg_da dt_X12_act 25 rfl) h
      · refine wr_aload_n (wg_da dt_X12_act 18 rfl) rfl ?_
        refine wr_iload_n (wg_da dt_X12_act 19 rfl) rfl ?_
        refine wr_iload_n (wg_da dt_X12_act 20 rfl) rfl ?_
        refine wr_iload_n (wg_da dt_X12_act 21 rfl) rfl ?_
        refine wr_callVi [.int x1, .int x2, .int x3] [] (wg_da dt_X12_act 22 rfl) ⟨wq_8_134, wq_8_136, wq_p8_2⟩ hx0 ⟨rfl, by decide⟩ wy_X12_canAct (fun q hq => m_X12_canAct l E x0 x1 x2 x3 hx0 _ q hq) rfl rfl (Nat.le_of_ble_eq_true rfl) ⟨rfl, rfl, by decide, by decide⟩ h (fun v8 s9 h => ?_)
        refine wr_if_ne 44 (wg_da dt_X12_act 23 rfl) (by decide) h (fun h => ?_) (fun h => ?_)
        · refine wr_iconst (0 : Int32) (wg_da dt_X12_act 24 rfl) (by decide) ?_
          exact wr_zret0 (wg_da dt_X12_act 25 rfl) h
        · refine wr_aload_n (wg_da dt_X12_act 26 rfl) rfl ?_
          refine wr_callVv [] [] (wg_da dt_X12_act 27 rfl) ⟨wq_8_66, wq_8_68, wq_p7_2⟩ hx0 ⟨rfl, by decide⟩ wy_X12_keepsAhead (fun q hq => m_X12_keepsAhead l E x0 hx0 _ q hq) rfl rfl (Nat.le_of_ble_eq_true rfl) ⟨rfl, rfl, by decide, by decide⟩ h (fun _ s10 h => ?_)
          refine wr_aload_n (wg_da dt_X12_act 28 rfl) rfl ?_
          refine wr_iload_n (wg_da dt_X12_act 29 rfl) rfl ?_
          refine wr_iload_n (wg_da dt_X12_act 30 rfl) rfl ?_
          refine wr_iload_n (wg_da dt_X12_act 31 rfl) rfl ?_
          refine wr_callVv [.int x1, .int x2, .int x3] [] (wg_da dt_X12_act 32 rfl) ⟨wq_8_146, wq_8_148, wq_p8_5⟩ hx0 ⟨rfl, by decide⟩ wy_X12_acts (fun q hq => m_X12_acts l E x0 x1 x2 x3 hx0 _ q hq) rfl rfl (Nat.le_of_ble_eq_true rfl) ⟨rfl, rfl, by decide, by decide⟩ h (fun _ s11 h => ?_)
          refine wr_iconst (1 : Int32) (wg_da dt_X12_act 33 rfl) (by decide) ?_
          exact wr_zret1 (wg_da dt_X12_act 34 rfl) h
theorem m_X12_act (l : Launch) (E : wg_E) (x0 : Nat) (x1 : Int32) (x2 : Int32) (x3 : Int32) (hx0 : wg_t Sm x0 = 14) (σ : wg_M) (q : Int32 × wg_M) (h : f_X12_act x0 x1 x2 x3 σ = some q) : wg_MG l E Sm yX12_act cX12_act 4 (some .boolean) rm_X12_act [.ref x0, .int x1, .int x2, .int x3] σ (some q.1) q.2 :=
  wg_met [.ref x0, .int x1, .int x2, .int x3] (plainFor_of_name (by decide)) (Nat.le_of_ble_eq_true rfl) (g_X12_act_e l E x0 x1 x2 x3 σ q hx0 h)
abbrev rm_X12_youngest : Room := { frames := 1, cells := 0, slots := 0, locals := 21 }
def tb_X12_youngest : List (Nat × Instr × Nat) := [(0, .iconst (-1), 1), (1, .istore_n 1, 1), (2, .iconst 0, 1), (3, .istore_n 2, 1), (4, .iload_n 2, 1), (5, .aload_n 0, 1), (6, .getfield 128, 3), (9, .if_icmp .ge 52, 3), (12, .aload_n 0, 1), (13, .iload_n 2, 1), (14, .invokevirtual 354, 3), (17, .ifCond .eq 38, 3), (20, .aload_n 0, 1), (21, .iload_n 2, 1), (22, .invokevirtual 134, 3), (25, .iconst (-1), 1), (26, .if_icmp .ne 29, 3), (29, .iload_n 1, 1), (30, .iconst (-1), 1), (31, .if_icmp .eq 22, 3), (34, .aload_n 0, 1), (35, .getfield 7, 3), (38, .iconst 3, 1), (39, .iload_n 2, 1), (40, .iadd, 1), (41, .iaload, 1), (42, .aload_n 0, 1), (43, .getfield 7, 3), (46, .iconst 3, 1), (47, .iload_n 1, 1), (48, .iadd, 1), (49, .iaload, 1), (50, .if_icmp .ge 5, 3), (53, .iload_n 2, 1), (54, .istore_n 1, 1), (55, .iinc 2 1, 3), (58, .goto (-54), 3), (61, .iload_n 1, 1), (62, .ireturn, 1)]
theorem dt_X12_youngest : wg_dc cX12_youngest tb_X12_youngest := by unfold wg_dc; decide +kernel
def f_X12_youngest_55 (k4 : Nat → Int32 → Int32 → wg_M → Option (Int32 × wg_M)) (x0 : Nat) (x1 : Int32) (x2 : Int32) (σ : wg_M) : Option (Int32 × wg_M) := wg_let (x2 + (1 : Int32)) (fun v1 => k4 x0 x1 v1 σ)
def f_X12_youngest_53 (k4 : Nat → Int32 → Int32 → wg_M → Option (Int32 × wg_M)) (x0 : Nat) (x2 : Int32) (σ : wg_M) : Option (Int32 × wg_M) := f_X12_youngest_55 k4 x0 x2 x2 σ
def f_X12_youngest_4  : Nat → Nat → Int32 → Int32 → wg_M → Option (Int32 × wg_M)
  | 0, _, _, _, _ => none
  | n + 1, x0, x1, x2, σ => if (σ x0 7) ≤ x2 then (some (x1, σ)) else (wg_bd (f_X12_isAlive x0 x2 σ) (fun v1 s2 => if v1 = 0 then (f_X12_youngest_55 (f_X12_youngest_4  n) x0 x1 x2 s2) else (wg_bd (f_X12_wigOf x0 x2 s2) (fun v3 s4 => if v3 = (-1 : Int32) then (if x1 = (-1 : Int32) then (f_X12_youngest_53 (f_X12_youngest_4  n) x0 x2 s4) else (wg_ga (wg_n Sm (wg_r Sm x0 1)) (s4 (wg_r Sm x0 1)) ((3 : Int32) + x2) (fun v5 => wg_ga (wg_n Sm (wg_r Sm x0 1)) (s4 (wg_r Sm x0 1)) ((3 : Int32) + x1) (fun v6 => if v6 ≤ v5 then (f_X12_youngest_55 (f_X12_youngest_4  n) x0 x1 x2 s4) else (f_X12_youngest_53 (f_X12_youngest_4  n) x0 x2 s4))))) else (f_X12_youngest_55 (f_X12_youngest_4  n) x0 x1 x2 s4)))))
def f_X12_youngest  (x0 : Nat) (σ : wg_M) : Option (Int32 × wg_M) := f_X12_youngest_4  wg_N x0 (-1 : Int32) (0 : Int32) σ
set_option maxRecDepth 20000 in
theorem g_X12_youngest_55 (l : Launch) (E : wg_E) (k4 : Nat → Int32 → Int32 → wg_M → Option (Int32 × wg_M)) (x0 : Nat) (x1 : Int32) (x2 : Int32) (σ : wg_M) (z : Int32 × wg_M) (hx0 : wg_t Sm x0 = 14) (hk4 : ∀ (x0 : Nat) (x1 : Int32) (x2 : Int32) (σ : wg_M), wg_t Sm x0 = 14 → k4 x0 x1 x2 σ = some z → wg_G l E Sm "WornWigsModel" cX12_youngest 3 (some .int) rm_X12_youngest (some z.1) z.2 4 [some (.ref x0), some (.int x1), some (.int x2)] [] σ) (h : f_X12_youngest_55 k4 x0 x1 x2 σ = some z) : wg_G l E Sm "WornWigsModel" cX12_youngest 3 (some .int) rm_X12_youngest (some z.1) z.2 55 [some (.ref x0), some (.int x1), some (.int x2)] [] σ := by
  refine wr_iinc (c0 := (1 : Int32)) (wg_da dt_X12_youngest 35 rfl) rfl (by decide) (by decide) h (fun v1 h => ?_)
  refine wr_goto 4 (wg_da dt_X12_youngest 36 rfl) (by decide) ?_
  exact wr_wk [true, true, true] (hk4 x0 x1 v1 σ hx0 h)
set_option maxRecDepth 20000 in
theorem g_X12_youngest_53 (l : Launch) (E : wg_E) (k4 : Nat → Int32 → Int32 → wg_M → Option (Int32 × wg_M)) (x0 : Nat) (x2 : Int32) (σ : wg_M) (z : Int32 × wg_M) (hx0 : wg_t Sm x0 = 14) (hk4 : ∀ (x0 : Nat) (x1 : Int32) (x2 : Int32) (σ : wg_M), wg_t Sm x0 = 14 → k4 x0 x1 x2 σ = some z → wg_G l E Sm "WornWigsModel" cX12_youngest 3 (some .int) rm_X12_youngest (some z.1) z.2 4 [some (.ref x0), some (.int x1), some (.int x2)] [] σ) (h : f_X12_youngest_53 k4 x0 x2 σ = some z) : wg_G l E Sm "WornWigsModel" cX12_youngest 3 (some .int) rm_X12_youngest (some z.1) z.2 53 [some (.ref x0), none, some (.int x2)] [] σ := by
  refine wr_iload_n (wg_da dt_X12_youngest 33 rfl) rfl ?_
  refine wr_istore_n (wg_da dt_X12_youngest 34 rfl) (by decide) ?_
  exact wr_wk [true, true, true] (g_X12_youngest_55 l E k4 x0 x2 x2 σ _ hx0 hk4 h)
set_option maxRecDepth 20000 in
theorem g_X12_youngest_4 (l : Launch) (E : wg_E)  (z : Int32 × wg_M) : ∀ (n : Nat) (x0 : Nat) (x1 : Int32) (x2 : Int32) (σ : wg_M) (hx0 : wg_t Sm x0 = 14) (h : f_X12_youngest_4  n x0 x1 x2 σ = some z), wg_G l E Sm "WornWigsModel" cX12_youngest 3 (some .int) rm_X12_youngest (some z.1) z.2 4 [some (.ref x0), some (.int x1), some (.int x2)] [] σ := by
  intro n
  induction n with
  | zero => intro x0 x1 x2 σ hx0 h; cases h
  | succ n ih =>
    intro x0 x1 x2 σ hx0 h
    refine wr_iload_n (wg_da dt_X12_youngest 4 rfl) rfl ?_
    refine wr_aload_n (wg_da dt_X12_youngest 5 rfl) rfl ?_
    refine wr_getI wf_X12_128 (wg_da dt_X12_youngest 6 rfl) hx0 ?_
    refine wr_icmp_ge 61 (wg_da dt_X12_youngest 7 rfl) (by decide) h (fun h => ?_) (fun h => ?_)
    · refine wr_iload_n (wg_da dt_X12_youngest 37 rfl) rfl ?_
      exact wr_iret (wg_da dt_X12_youngest 38 rfl) h
    · refine wr_aload_n (wg_da dt_X12_youngest 8 rfl) rfl ?_
      refine wr_iload_n (wg_da dt_X12_youngest 9 rfl) rfl ?_
      refine wr_callVi [.int x2] [] (wg_da dt_X12_youngest 10 rfl) ⟨wq_8_62, wq_8_64, wq_p7_1⟩ hx0 ⟨rfl, by decide⟩ wy_X12_isAlive (fun q hq => m_X12_isAlive l E x0 x2 hx0 _ q hq) rfl rfl (Nat.le_of_ble_eq_true rfl) ⟨rfl, rfl, by decide, by decide⟩ h (fun v1 s2 h => ?_)
      refine wr_if_eq 55 (wg_da dt_X12_youngest 11 rfl) (by decide) h (fun h => ?_) (fun h => ?_)
      · exact wr_wk [true, true, true] (g_X12_youngest_55 l E (f_X12_youngest_4  n) x0 x1 x2 s2 _ hx0 (fun x0 x1 x2 σ hx0 h => ih x0 x1 x2 σ hx0 h) h)
      · refine wr_aload_n (wg_da dt_X12_youngest 12 rfl) rfl ?_
        refine wr_iload_n (wg_da dt_X12_youngest 13 rfl) rfl ?_
        refine wr_callVi [.int x2] [] (wg_da dt_X12_youngest 14 rfl) ⟨wq_8_78, wq_8_80, wq_p7_5⟩ hx0 ⟨rfl, by decide⟩ wy_X12_wigOf (fun q hq => m_X12_wigOf l E x0 x2 hx0 _ q hq) rfl rfl (Nat.le_of_ble_eq_true rfl) ⟨rfl, rfl, by decide, by decide⟩ h (fun v3 s4 h => ?_)
        refine wr_iconst (-1 : Int32) (wg_da dt_X12_youngest 15 rfl) (by decide) ?_
        refine wr_icmp_ne 55 (wg_da dt_X12_youngest 16 rfl) (by decide) h (fun h => ?_) (fun h => ?_)
        · refine wr_iload_n (wg_da dt_X12_youngest 17 rfl) rfl ?_
          refine wr_iconst (-1 : Int32) (wg_da dt_X12_youngest 18 rfl) (by decide) ?_
          refine wr_icmp_eq 53 (wg_da dt_X12_youngest 19 rfl) (by decide) h (fun h => ?_) (fun h => ?_)
          · exact wr_wk [true, false, true] (g_X12_youngest_53 l E (f_X12_youngest_4  n) x0 x2 s4 _ hx0 (fun x0 x1 x2 σ hx0 h => ih x0 x1 x2 σ hx0 h) h)
          · refine wr_aload_n (wg_da dt_X12_youngest 20 rfl) rfl ?_
            refine wr_getR wf_X12_7 (wg_da dt_X12_youngest 21 rfl) hx0 ?_
            refine wr_iconst (3 : Int32) (wg_da dt_X12_youngest 22 rfl) (by decide) ?_
            refine wr_iload_n (wg_da dt_X12_youngest 23 rfl) rfl ?_
            refine wr_iadd (wg_da dt_X12_youngest 24 rfl) ?_
            refine wr_iald (wg_da dt_X12_youngest 25 rfl) (wg_ty Sm_ok 12 1 0 hx0 rfl (by decide)).2 h (fun v5 h => ?_)
            refine wr_aload_n (wg_da dt_X12_youngest 26 rfl) rfl ?_
            refine wr_getR wf_X12_7 (wg_da dt_X12_youngest 27 rfl) hx0 ?_
            refine wr_iconst (3 : Int32) (wg_da dt_X12_youngest 28 rfl) (by decide) ?_
            refine wr_iload_n (wg_da dt_X12_youngest 29 rfl) rfl ?_
            refine wr_iadd (wg_da dt_X12_youngest 30 rfl) ?_
            refine wr_iald (wg_da dt_X12_youngest 31 rfl) (wg_ty Sm_ok 12 1 0 hx0 rfl (by decide)).2 h (fun v6 h => ?_)
            refine wr_icmp_ge 55 (wg_da dt_X12_youngest 32 rfl) (by decide) h (fun h => ?_) (fun h => ?_)
            · exact wr_wk [true, true, true] (g_X12_youngest_55 l E (f_X12_youngest_4  n) x0 x1 x2 s4 _ hx0 (fun x0 x1 x2 σ hx0 h => ih x0 x1 x2 σ hx0 h) h)
            · exact wr_wk [true, false, true] (g_X12_youngest_53 l E (f_X12_youngest_4  n) x0 x2 s4 _ hx0 (fun x0 x1 x2 σ hx0 h => ih x0 x1 x2 σ hx0 h) h)
        · exact wr_wk [true, true, true] (g_X12_youngest_55 l E (f_X12_youngest_4  n) x0 x1 x2 s4 _ hx0 (fun x0 x1 x2 σ hx0 h => ih x0 x1 x2 σ hx0 h) h)
set_option maxRecDepth 20000 in
theorem g_X12_youngest_e (l : Launch) (E : wg_E)  (x0 : Nat) (σ : wg_M) (z : Int32 × wg_M) (hx0 : wg_t Sm x0 = 14) (h : f_X12_youngest  x0 σ = some z) : wg_G l E Sm "WornWigsModel" cX12_youngest 3 (some .int) rm_X12_youngest (some z.1) z.2 0 [some (.ref x0), none, none] [] σ := by
  refine wr_iconst (-1 : Int32) (wg_da dt_X12_youngest 0 rfl) (by decide) ?_
  refine wr_istore_n (wg_da dt_X12_youngest 1 rfl) (by decide) ?_
  refine wr_iconst (0 : Int32) (wg_da dt_X12_youngest 2 rfl) (by decide) ?_
  refine wr_istore_n (wg_da dt_X12_youngest 3 rfl) (by decide) ?_
  exact wr_wk [true, true, true] (g_X12_youngest_4 l E  _  wg_N x0 (-1 : Int32) (0 : Int32) σ hx0 h)
theorem m_X12_youngest (l : Launch) (E : wg_E) (x0 : Nat) (hx0 : wg_t Sm x0 = 14) (σ : wg_M) (q : Int32 × wg_M) (h : f_X12_youngest x0 σ = some q) : wg_MG l E Sm yX12_youngest cX12_youngest 3 (some .int) rm_X12_youngest [.ref x0] σ (some q.1) q.2 :=
  wg_met [.ref x0] (plainFor_of_name (by decide)) (Nat.le_of_ble_eq_true rfl) (g_X12_youngest_e l E x0 σ q hx0 h)
abbrev rm_X12_dies : Room := { frames := 3, cells := 0, slots := 0, locals := 66 }
def tb_X12_dies : List (Nat × Instr × Nat) := [(0, .aload_n 0, 1), (1, .iload_n 1, 1), (2, .invokevirtual 134, 3), (5, .istore_n 2, 1), (6, .aload_n 0, 1), (7, .getfield 7, 3), (10, .bipush 23, 2), (12, .iload_n 1, 1), (13, .iadd, 1), (14, .iconst 1, 1), (15, .iastore, 1), (16, .aload_n 0, 1), (17, .getfield 7, 3), (20, .bipush 13, 2), (22, .iload_n 1, 1), (23, .iadd, 1), (24, .iconst 0, 1), (25, .iastore, 1), (26, .aload_n 0, 1), (27, .iconst 2, 1), (28, .iload_n 1, 1), (29, .aload_n 0, 1), (30, .getfield 7, 3), (33, .iconst 3, 1), (34, .iload_n 1, 1), (35, .iadd, 1), (36, .iaload, 1), (37, .invokevirtual 360, 3), (40, .iload_n 2, 1), (41, .iconst (-1), 1), (42, .if_icmp .eq 20, 3), (45, .aload_n 0, 1), (46, .invokevirtual 404, 3), (49, .iconst (-1), 1), (50, .if_icmp .eq 12, 3), (53, .aload_n 0, 1), (54, .iload_n 2, 1), (55, .aload_n 0, 1), (56, .invokevirtual 404, 3), (59, .invokevirtual 386, 3), (62, .return_, 1)]
theorem dt_X12_dies : wg_dc cX12_dies tb_X12_dies := by unfold wg_dc; decide +kernel
def f_X12_dies  (x0 : Nat) (x1 : Int32) (σ : wg_M) : Option (Int32 × wg_M) := wg_bd (f_X12_wigOf x0 x1 σ) (fun v1 s2 => wg_sa (wg_n Sm (wg_r Sm x0 1)) s2 (wg_r Sm x0 1) ((23 : Int32) + x1) (1 : Int32) (fun s3 => wg_sa (wg_n Sm (wg_r Sm x0 1)) s3 (wg_r Sm x0 1) ((13 : Int32) + x1) (0 : Int32) (fun s4 => wg_ga (wg_n Sm (wg_r Sm x0 1)) (s4 (wg_r Sm x0 1)) ((3 : Int32) + x1) (fun v5 => wg_bd (f_X12_notes x0 (2 : Int32) x1 v5 s4) (fun _ s6 => if v1 = (-1 : Int32) then (some (0, s6)) else (wg_bd (f_X12_youngest x0 s6) (fun v7 s8 => if v7 = (-1 : Int32) then (some (0, s8)) else (wg_bd (f_X12_youngest x0 s8) (fun v9 s10 => wg_bd (f_X12_isOn x0 v1 v9 s10) (fun _ s11 => some (0, s11)))))))))))
set_option maxRecDepth 20000 in
theorem g_X12_dies_e (l : Launch) (E : wg_E)  (x0 : Nat) (x1 : Int32) (σ : wg_M) (z : Int32 × wg_M) (hx0 : wg_t Sm x0 = 14) (h : f_X12_dies  x0 x1 σ = some z) : wg_G l E Sm "WornWigsModel" cX12_dies 3 none rm_X12_dies none z.2 0 [some (.ref x0), some (.int x1), none] [] σ := by
  refine wr_aload_n (wg_da dt_X12_dies 0 rfl) rfl ?_
  refine wr_iload_n (wg_da dt_X12_dies 1 rfl) rfl ?_
  refine wr_callVi [.int x1] [] (wg_da dt_X12_dies 2 rfl) ⟨wq_8_78, wq_8_80, wq_p7_5⟩ hx0 ⟨rfl, by decide⟩ wy_X12_wigOf (fun q hq => m_X12_wigOf l E x0 x1 hx0 _ q hq) rfl rfl (Nat.le_of_ble_eq_true rfl) ⟨rfl, rfl, by decide, by decide⟩ h (fun v1 s2 h => ?_)
  refine wr_istore_n (wg_da dt_X12_dies 3 rfl) (by decide) ?_
  refine wr_aload_n (wg_da dt_X12_dies 4 rfl) rfl ?_
  refine wr_getR wf_X12_7 (wg_da dt_X12_dies 5 rfl) hx0 ?_
  refine wr_bipush (23 : Int32) (wg_da dt_X12_dies 6 rfl) (by decide) ?_
  refine wr_iload_n (wg_da dt_X12_dies 7 rfl) rfl ?_
  refine wr_iadd (wg_da dt_X12_dies 8 rfl) ?_
  refine wr_iconst (1 : Int32) (wg_da dt_X12_dies 9 rfl) (by decide) ?_
  refine wr_iast (wg_da dt_X12_dies 10 rfl) (wg_ty Sm_ok 12 1 0 hx0 rfl (by decide)).2 h (fun s3 h => ?_)
  refine wr_aload_n (wg_da dt_X12_dies 11 rfl) rfl ?_
  refine wr_getR wf_X12_7 (wg_da dt_X12_dies 12 rfl) hx0 ?_
  refine wr_bipush (13 : Int32) (wg_da dt_X12_dies 13 rfl) (by decide) ?_
  refine wr_iload_n (wg_da dt_X12_dies 14 rfl) rfl ?_
  refine wr_iadd (wg_da dt_X12_dies 15 rfl) ?_
  refine wr_iconst (0 : Int32) (wg_da dt_X12_dies 16 rfl) (by decide) ?_
  refine wr_iast (wg_da dt_X12_dies 17 rfl) (wg_ty Sm_ok 12 1 0 hx0 rfl (by decide)).2 h (fun s4 h => ?_)
  refine wr_aload_n (wg_da dt_X12_dies 18 rfl) rfl ?_
  refine wr_iconst (2 : Int32) (wg_da dt_X12_dies 19 rfl) (by decide) ?_
  refine wr_iload_n (wg_da dt_X12_dies 20 rfl) rfl ?_
  refine wr_aload_n (wg_da dt_X12_dies 21 rfl) rfl ?_
  refine wr_getR wf_X12_7 (wg_da dt_X12_dies 22 rfl) hx0 ?_
  refine wr_iconst (3 : Int32) (wg_da dt_X12_dies 23 rfl) (by decide) ?_
  refine wr_iload_n (wg_da dt_X12_dies 24 rfl) rfl ?_
  refine wr_iadd (wg_da dt_X12_dies 25 rfl) ?_
  refine wr_iald (wg_da dt_X12_dies 26 rfl) (wg_ty Sm_ok 12 1 0 hx0 rfl (by decide)).2 h (fun v5 h => ?_)
  refine wr_callVv [.int (2 : Int32), .int x1, .int v5] [] (wg_da dt_X12_dies 27 rfl) ⟨wq_8_114, wq_8_116, wq_p7_14⟩ hx0 ⟨rfl, by decide⟩ wy_X12_notes (fun q hq => m_X12_notes l E x0 (2 : Int32) x1 v5 hx0 _ q hq) rfl rfl (Nat.le_of_ble_eq_true rfl) ⟨rfl, rfl, by decide, by decide⟩ h (fun _ s6 h => ?_)
  refine wr_iload_n (wg_da dt_X12_dies 28 rfl) rfl ?_
  refine wr_iconst (-1 : Int32) (wg_da dt_X12_dies 29 rfl) (by decide) ?_
  refine wr_icmp_eq 62 (wg_da dt_X12_dies 30 rfl) (by decide) h (fun h => ?_) (fun h => ?_)
  · exact wr_vret (wg_da dt_X12_dies 40 rfl) h
  · refine wr_aload_n (wg_da dt_X12_dies 31 rfl) rfl ?_
    refine wr_callVi [] [] (wg_da dt_X12_dies 32 rfl) ⟨wq_8_192, wq_8_194, wq_p8_15⟩ hx0 ⟨rfl, by decide⟩ wy_X12_youngest (fun q hq => m_X12_youngest l E x0 hx0 _ q hq) rfl rfl (Nat.le_of_ble_eq_true rfl) ⟨rfl, rfl, by decide, by decide⟩ h (fun v7 s8 h => ?_)
    refine wr_iconst (-1 : Int32) (wg_da dt_X12_dies 33 rfl) (by decide) ?_
    refine wr_icmp_eq 62 (wg_da dt_X12_dies 34 rfl) (by decide) h (fun h => ?_) (fun h => ?_)
    · exact wr_vret (wg_da dt_X12_dies 40 rfl) h
    · refine wr_aload_n (wg_da dt_X12_dies 35 rfl) rfl ?_
      refine wr_iload_n (wg_da dt_X12_dies 36 rfl) rfl ?_
      refine wr_aload_n (wg_da dt_X12_dies 37 rfl) rfl ?_
      refine wr_callVi [] [.int v1, .ref x0] (wg_da dt_X12_dies 38 rfl) ⟨wq_8_192, wq_8_194, wq_p8_15⟩ hx0 ⟨rfl, by decide⟩ wy_X12_youngest (fun q hq => m_X12_youngest l E x0 hx0 _ q hq) rfl rfl (Nat.le_of_ble_eq_true rfl) ⟨rfl, rfl, by decide, by decide⟩ h (fun v9 s10 h => ?_)
      refine wr_callVv [.int v1, .int v9] [] (wg_da dt_X12_dies 39 rfl) ⟨wq_8_150, wq_8_152, wq_p8_6⟩ hx0 ⟨rfl, by decide⟩ wy_X12_isOn (fun q hq => m_X12_isOn l E x0 v1 v9 hx0 _ q hq) rfl rfl (Nat.le_of_ble_eq_true rfl) ⟨rfl, rfl, by decide, by decide⟩ h (fun _ s11 h => ?_)
      exact wr_vret (wg_da dt_X12_dies 40 rfl) h
theorem m_X12_dies (l : Launch) (E : wg_E) (x0 : Nat) (x1 : Int32) (hx0 : wg_t Sm x0 = 14) (σ : wg_M) (q : Int32 × wg_M) (h : f_X12_dies x0 x1 σ = some q) : wg_MG l E Sm yX12_dies cX12_dies 3 none rm_X12_dies [.ref x0, .int x1] σ none q.2 :=
  wg_met [.ref x0, .int x1] (plainFor_of_name (by decide)) (Nat.le_of_ble_eq_true rfl) (g_X12_dies_e l E x0 x1 σ q hx0 h)
abbrev rm_X12_isEnding : Room := { frames := 5, cells := 0, slots := 0, locals := 115 }
def tb_X12_isEnding : List (Nat × Instr × Nat) := [(0, .aload_n 0, 1), (1, .iload_n 1, 1), (2, .invokevirtual 407, 3), (5, .istore_n 2, 1), (6, .aload_n 0, 1), (7, .getfield 7, 3), (10, .iconst 3, 1), (11, .iload_n 1, 1), (12, .iadd, 1), (13, .iaload, 1), (14, .bipush 120, 2), (16, .if_icmp .ne 7, 3), (19, .iconst 1, 1), (20, .goto 4, 3), (23, .iconst 0, 1), (24, .istore_n 3, 1), (25, .aload_n 0, 1), (26, .getfield 119, 3), (29, .ifCond .eq 22, 3), (32, .iload_n 3, 1), (33, .ifCond .ne 12, 3), (36, .iconst 2, 1), (37, .iload_n 2, 1), (38, .imul, 1), (39, .sipush 1000, 3), (42, .if_icmp .lt 7, 3), (45, .iconst 1, 1), (46, .goto 4, 3), (49, .iconst 0, 1), (50, .ireturn, 1), (51, .iload_n 2, 1), (52, .ifCond .le 16, 3), (55, .aload_n 0, 1), (56, .sipush 1000, 3), (59, .invokevirtual 410, 3), (62, .iload_n 2, 1), (63, .if_icmp .ge 5, 3), (66, .iconst 1, 1), (67, .ireturn, 1), (68, .iload_n 3, 1), (69, .ireturn, 1)]
theorem dt_X12_isEnding : wg_dc cX12_isEnding tb_X12_isEnding := by unfold wg_dc; decide +kernel
def f_X12_isEnding_45   (σ : wg_M) : Option (Int32 × wg_M) := some ((1 : Int32), σ)
def f_X12_isEnding_24  (x0 : Nat) (x2 : Int32) (t0 : Int32) (σ : wg_M) : Option (Int32 × wg_M) := if (σ x0 5) = 0 then (if x2 ≤ 0 then (wg_bz t0 (some (t0, σ))) else (wg_bd (f_X12_draw x0 (1000 : Int32) σ) (fun v1 s2 => if x2 ≤ v1 then (wg_bz t0 (some (t0, s2))) else (some ((1 : Int32), s2))))) else (if t0 = 0 then (if ((2 : Int32) * x2) < (1000 : Int32) then (some ((0 : Int32), σ)) else (f_X12_isEnding_45   σ)) else (f_X12_isEnding_45   σ))
def f_X12_isEnding  (x0 : Nat) (x1 : Int32) (σ : wg_M) : Option (Int32 × wg_M) := wg_bd (f_X12_diesOf x0 x1 σ) (fun v1 s2 => wg_ga (wg_n Sm (wg_r Sm x0 1)) (s2 (wg_r Sm x0 1)) ((3 : Int32) + x1) (fun v3 => if v3 = (120 : Int32) then (f_X12_isEnding_24  x0 v1 (1 : Int32) s2) else (f_X12_isEnding_24  x0 v1 (0 : Int32) s2)))
set_option maxRecDepth 20000 in
theorem g_X12_isEnding_45 (l : Launch) (E : wg_E)   (σ : wg_M) (z : Int32 × wg_M)  (h : f_X12_isEnding_45   σ = some z) : wg_G l E Sm "WornWigsModel" cX12_isEnding 4 (some .boolean) rm_X12_isEnding (some z.1) z.2 45 [none, none, none, none] [] σ := by
  refine wr_iconst (1 : Int32) (wg_da dt_X12_isEnding 26 rfl) (by decide) ?_
  refine wr_goto 50 (wg_da dt_X12_isEnding 27 rfl) (by decide) ?_
  exact wr_zret1 (wg_da dt_X12_isEnding 29 rfl) h
set_option maxRecDepth 20000 in
theorem g_X12_isEnding_24 (l : Launch) (E : wg_E)  (x0 : Nat) (x2 : Int32) (t0 : Int32) (σ : wg_M) (z : Int32 × wg_M) (hx0 : wg_t Sm x0 = 14) (h : f_X12_isEnding_24  x0 x2 t0 σ = some z) : wg_G l E Sm "WornWigsModel" cX12_isEnding 4 (some .boolean) rm_X12_isEnding (some z.1) z.2 24 [some (.ref x0), none, some (.int x2), none] [.int t0] σ := by
  refine wr_istore_n (wg_da dt_X12_isEnding 15 rfl) (by decide) ?_
  refine wr_aload_n (wg_da dt_X12_isEnding 16 rfl) rfl ?_
  refine wr_getI wf_X12_119 (wg_da dt_X12_isEnding 17 rfl) hx0 ?_
  refine wr_if_eq 51 (wg_da dt_X12_isEnding 18 rfl) (by decide) h (fun h => ?_) (fun h => ?_)
  · refine wr_iload_n (wg_da dt_X12_isEnding 30 rfl) rfl ?_
    refine wr_if_le 68 (wg_da dt_X12_isEnding 31 rfl) (by decide) h (fun h => ?_) (fun h => ?_)
    · refine wr_iload_n (wg_da dt_X12_isEnding 39 rfl) rfl ?_
      exact wr_zret (wg_da dt_X12_isEnding 40 rfl) h
    · refine wr_aload_n (wg_da dt_X12_isEnding 32 rfl) rfl ?_
      refine wr_sipush (1000 : Int32) (wg_da dt_X12_isEnding 33 rfl) (by decide) ?_
      refine wr_callVi [.int (1000 : Int32)] [] (wg_da dt_X12_isEnding 34 rfl) ⟨wq_8_182, wq_8_184, wq_p8_13⟩ hx0 ⟨rfl, by decide⟩ wy_X12_draw (fun q hq => m_X12_draw l E x0 (1000 : Int32) hx0 _ q hq) rfl rfl (Nat.le_of_ble_eq_true rfl) ⟨rfl, rfl, by decide, by decide⟩ h (fun v1 s2 h => ?_)
      refine wr_iload_n (wg_da dt_X12_isEnding 35 rfl) rfl ?_
      refine wr_icmp_ge 68 (wg_da dt_X12_isEnding 36 rfl) (by decide) h (fun h => ?_) (fun h => ?_)
      · refine wr_iload_n (wg_da dt_X12_isEnding 39 rfl) rfl ?_
        exact wr_zret (wg_da dt_X12_isEnding 40 rfl) h
      · refine wr_iconst (1 : Int32) (wg_da dt_X12_isEnding 37 rfl) (by decide) ?_
        exact wr_zret1 (wg_da dt_X12_isEnding 38 rfl) h
  · refine wr_iload_n (wg_da dt_X12_isEnding 19 rfl) rfl ?_
    refine wr_if_ne 45 (wg_da dt_X12_isEnding 20 rfl) (by decide) h (fun h => ?_) (fun h => ?_)
    · refine wr_iconst (2 : Int32) (wg_da dt_X12_isEnding 21 rfl) (by decide) ?_
      refine wr_iload_n (wg_da dt_X12_isEnding 22 rfl) rfl ?_
      refine wr_imul (wg_da dt_X12_isEnding 23 rfl) ?_
      refine wr_sipush (1000 : Int32) (wg_da dt_X12_isEnding 24 rfl) (by decide) ?_
      refine wr_icmp_lt 49 (wg_da dt_X12_isEnding 25 rfl) (by decide) h (fun h => ?_) (fun h => ?_)
      · refine wr_iconst (0 : Int32) (wg_da dt_X12_isEnding 28 rfl) (by decide) ?_
        exact wr_zret0 (wg_da dt_X12_isEnding 29 rfl) h
      · exact wr_wk [false, false, false, false] (g_X12_isEnding_45 l E   σ _   h)
    · exact wr_wk [false, false, false, false] (g_X12_isEnding_45 l E   σ _   h)
set_option maxRecDepth 20000 in
theorem g_X12_isEnding_e (l : Launch) (E : wg_E)  (x0 : Nat) (x1 : Int32) (σ : wg_M) (z : Int32 × wg_M) (hx0 : wg_t Sm x0 = 14) (h : f_X12_isEnding  x0 x1 σ = some z) : wg_G l E Sm "WornWigsModel" cX12_isEnding 4 (some .boolean) rm_X12_isEnding (some z.1) z.2 0 [some (.ref x0), some (.int x1), none, none] [] σ := by
  refine wr_aload_n (wg_da dt_X12_isEnding 0 rfl) rfl ?_
  refine wr_iload_n (wg_da dt_X12_isEnding 1 rfl) rfl ?_
  refine wr_callVi [.int x1] [] (wg_da dt_X12_isEnding 2 rfl) ⟨wq_8_178, wq_8_180, wq_p8_12⟩ hx0 ⟨rfl, by decide⟩ wy_X12_diesOf (fun q hq => m_X12_diesOf l E x0 x1 hx0 _ q hq) rfl rfl (Nat.le_of_ble_eq_true rfl) ⟨rfl, rfl, by decide, by decide⟩ h (fun v1 s2 h => ?_)
  refine wr_istore_n (wg_da dt_X12_isEnding 3 rfl) (by decide) ?_
  refine wr_aload_n (wg_da dt_X12_isEnding 4 rfl) rfl ?_
  refine wr_getR wf_X12_7 (wg_da dt_X12_isEnding 5 rfl) hx0 ?_
  refine wr_iconst (3 : Int32) (wg_da dt_X12_isEnding 6 rfl) (by decide) ?_
  refine wr_iload_n (wg_da dt_X12_isEnding 7 rfl) rfl ?_
  refine wr_iadd (wg_da dt_X12_isEnding 8 rfl) ?_
  refine wr_iald (wg_da dt_X12_isEnding 9 rfl) (wg_ty Sm_ok 12 1 0 hx0 rfl (by decide)).2 h (fun v3 h => ?_)
  refine wr_bipush (120 : Int32) (wg_da dt_X12_isEnding 10 rfl) (by decide) ?_
  refine wr_icmp_ne 23 (wg_da dt_X12_isEnding 11 rfl) (by decide) h (fun h => ?_) (fun h => ?_)
  · refine wr_iconst (1 : Int32) (wg_da dt_X12_isEnding 12 rfl) (by decide) ?_
    refine wr_goto 24 (wg_da dt_X12_isEnding 13 rfl) (by decide) ?_
    exact wr_wk [true, false, true, false] (g_X12_isEnding_24 l E  x0 v1 (1 : Int32) s2 _ hx0  h)
  · refine wr_iconst (0 : Int32) (wg_da dt_X12_isEnding 14 rfl) (by decide) ?_
    exact wr_wk [true, false, true, false] (g_X12_isEnding_24 l E  x0 v1 (0 : Int32) s2 _ hx0  h)
theorem m_X12_isEnding (l : Launch) (E : wg_E) (x0 : Nat) (x1 : Int32) (hx0 : wg_t Sm x0 = 14) (σ : wg_M) (q : Int32 × wg_M) (h : f_X12_isEnding x0 x1 σ = some q) : wg_MG l E Sm yX12_isEnding cX12_isEnding 4 (some .boolean) rm_X12_isEnding [.ref x0, .int x1] σ (some q.1) q.2 :=
  wg_met [.ref x0, .int x1] (plainFor_of_name (by decide)) (Nat.le_of_ble_eq_true rfl) (g_X12_isEnding_e l E x0 x1 σ q hx0 h)
abbrev rm_X12_wears : Room := { frames := 5, cells := 0, slots := 0, locals := 115 }
def tb_X12_wears : List (Nat × Instr × Nat) := [(0, .aload_n 0, 1), (1, .getfield 7, 3), (4, .bipush 43, 2), (6, .iload_n 1, 1), (7, .iadd, 1), (8, .aload_n 0, 1), (9, .iconst 0, 1), (10, .aload_n 0, 1), (11, .getfield 7, 3), (14, .bipush 43, 2), (16, .iload_n 1, 1), (17, .iadd, 1), (18, .iaload, 1), (19, .aload_n 0, 1), (20, .iload_n 1, 1), (21, .invokevirtual 413, 3), (24, .isub, 1), (25, .invokevirtual 345, 3), (28, .iastore, 1), (29, .aload_n 0, 1), (30, .getfield 7, 3), (33, .bipush 43, 2), (35, .iload_n 1, 1), (36, .iadd, 1), (37, .iaload, 1), (38, .ifCond .ne 43, 3), (41, .aload_n 0, 1), (42, .getfield 7, 3), (45, .bipush 67, 2), (47, .iload_n 1, 1), (48, .iadd, 1), (49, .iaload, 1), (50, .ifCond .le 31, 3), (53, .aload_n 0, 1), (54, .iconst 3, 1), (55, .iload_n 1, 1), (56, .aload_n 0, 1), (57, .getfield 7, 3), (60, .aload_n 0, 1), (61, .iload_n 1, 1), (62, .iconst 0, 1), (63, .invokevirtual 138, 3), (66, .iaload, 1), (67, .invokevirtual 360, 3), (70, .aload_n 0, 1), (71, .iload_n 1, 1), (72, .iconst 0, 1), (73, .invokevirtual 367, 3), (76, .aload_n 0, 1), (77, .iload_n 1, 1), (78, .invokevirtual 149, 3), (81, .iconst 0, 1), (82, .istore_n 2, 1), (83, .iload_n 2, 1), (84, .aload_n 0, 1), (85, .getfield 7, 3), (88, .bipush 67, 2), (90, .iload_n 1, 1), (91, .iadd, 1), (92, .iaload, 1), (93, .if_icmp .ge 52, 3), (96, .aload_n 0, 1), (97, .iload_n 1, 1), (98, .invokevirtual 380, 3), (101, .iconst (-1), 1), (102, .if_icmp .eq 43, 3), (105, .aload_n 0, 1), (106, .getfield 7, 3), (109, .aload_n 0, 1), (110, .iload_n 1, 1), (111, .iload_n 2, 1), (112, .invokevirtual 138, 3), (115, .iconst 2, 1), (116, .iadd, 1), (117, .aload_n 0, 1), (118, .bipush 99, 2), (120, .aload_n 0, 1), (121, .getfield 7, 3), (124, .aload_n 0, 1), (125, .iload_n 1, 1), (126, .iload_n 2, 1), (127, .invokevirtual 138, 3), (130, .iconst 2, 1), (131, .iadd, 1), (132, .iaload, 1), (133, .iconst 1, 1), (134, .iadd, 1), (135, .invokevirtual 146, 3), (138, .iastore, 1), (139, .iinc 2 1, 3), (142, .goto (-59), 3), (145, .return_, 1)]
theorem dt_X12_wears : wg_dc cX12_wears tb_X12_wears := by unfold wg_dc; decide +kernel
def f_X12_wears_83  : Nat → Nat → Int32 → Int32 → wg_M → Option (Int32 × wg_M)
  | 0, _, _, _, _ => none
  | n + 1, x0, x1, x2, σ => wg_ga (wg_n Sm (wg_r Sm x0 1)) (σ (wg_r Sm x0 1)) ((67 : Int32) + x1) (fun v1 => if v1 ≤ x2 then (some (0, σ)) else (wg_bd (f_X12_wearerOf x0 x1 σ) (fun v2 s3 => if v2 = (-1 : Int32) then (some (0, s3)) else (wg_bd (f_X12_ruleAt x0 x1 x2 s3) (fun v4 s5 => wg_bd (f_X12_ruleAt x0 x1 x2 s5) (fun v6 s7 => wg_ga (wg_n Sm (wg_r Sm x0 1)) (s7 (wg_r Sm x0 1)) (v6 + (2 : Int32)) (fun v8 => wg_bd (f_X12_lesser x0 (99 : Int32) (v8 + (1 : Int32)) s7) (fun v9 s10 => wg_sa (wg_n Sm (wg_r Sm x0 1)) s10 (wg_r Sm x0 1) (v4 + (2 : Int32)) v9 (fun s11 => wg_let (x2 + (1 : Int32)) (fun v12 => f_X12_wears_83  n x0 x1 v12 s11))))))))))
def f_X12_wears_81  (x0 : Nat) (x1 : Int32) (σ : wg_M) : Option (Int32 × wg_M) := f_X12_wears_83  wg_N x0 x1 (0 : Int32) σ
def f_X12_wears  (x0 : Nat) (x1 : Int32) (σ : wg_M) : Option (Int32 × wg_M) := wg_ga (wg_n Sm (wg_r Sm x0 1)) (σ (wg_r Sm x0 1)) ((43 : Int32) + x1) (fun v1 => wg_bd (f_X12_mothOf x0 x1 σ) (fun v2 s3 => wg_bd (f_X12_greater x0 (0 : Int32) (v1 - v2) s3) (fun v4 s5 => wg_sa (wg_n Sm (wg_r Sm x0 1)) s5 (wg_r Sm x0 1) ((43 : Int32) + x1) v4 (fun s6 => wg_ga (wg_n Sm (wg_r Sm x0 1)) (s6 (wg_r Sm x0 1)) ((43 : Int32) + x1) (fun v7 => if v7 = 0 then (wg_ga (wg_n Sm (wg_r Sm x0 1)) (s6 (wg_r Sm x0 1)) ((67 : Int32) + x1) (fun v8 => if v8 ≤ 0 then (f_X12_wears_81  x0 x1 s6) else (wg_bd (f_X12_ruleAt x0 x1 (0 : Int32) s6) (fun v9 s10 => wg_ga (wg_n Sm (wg_r Sm x0 1)) (s10 (wg_r Sm x0 1)) v9 (fun v11 => wg_bd (f_X12_notes x0 (3 : Int32) x1 v11 s10) (fun _ s12 => wg_bd (f_X12_goesRule x0 x1 (0 : Int32) s12) (fun _ s13 => wg_bd (f_X12_itches x0 x1 s13) (fun _ s14 => f_X12_wears_81  x0 x1 s14)))))))) else (f_X12_wears_81  x0 x1 s6))))))
set_option maxRecDepth 20000 in
theorem g_X12_wears_83 (l : Launch) (E : wg_E)  (z : Int32 × wg_M) : ∀ (n : Nat) (x0 : Nat) (x1 : Int32) (x2 : Int32) (σ : wg_M) (hx0 : wg_t Sm x0 = 14) (h : f_X12_wears_83  n x0 x1 x2 σ = some z), wg_G l E Sm "WornWigsModel" cX12_wears 3 none rm_X12_wears none z.2 83 [some (.ref x0), some (.int x1), some (.int x2)] [] σ := by
  intro n
  induction n with
  | zero => intro x0 x1 x2 σ hx0 h; cases h
  | succ n ih =>
    intro x0 x1 x2 σ hx0 h
    refine wr_iload_n (wg_da dt_X12_wears 53 rfl) rfl ?_
    refine wr_aload_n (wg_da dt_X12_wears 54 rfl) rfl ?_
    refine wr_getR wf_X12_7 (wg_da dt_X12_wears 55 rfl) hx0 ?_
    refine wr_bipush (67 : Int32) (wg_da dt_X12_wears 56 rfl) (by decide) ?_
    refine wr_iload_n (wg_da dt_X12_wears 57 rfl) rfl ?_
    refine wr_iadd (wg_da dt_X12_wears 58 rfl) ?_
    refine wr_iald (wg_da dt_X12_wears 59 rfl) (wg_ty Sm_ok 12 1 0 hx0 rfl (by decide)).2 h (fun v1 h => ?_)
    refine wr_icmp_ge 145 (wg_da dt_X12_wears 60 rfl) (by decide) h (fun h => ?_) (fun h => ?_)
    · exact wr_vret (wg_da dt_X12_wears 91 rfl) h
    · refine wr_aload_n (wg_da dt_X12_wears 61 rfl) rfl ?_
      refine wr_iload_n (wg_da dt_X12_wears 62 rfl) rfl ?_
      refine wr_callVi [.int x1] [] (wg_da dt_X12_wears 63 rfl) ⟨wq_8_138, wq_8_140, wq_p8_3⟩ hx0 ⟨rfl, by decide⟩ wy_X12_wearerOf (fun q hq => m_X12_wearerOf l E x0 x1 hx0 _ q hq) rfl rfl (Nat.le_of_ble_eq_true rfl) ⟨rfl, rfl, by decide, by decide⟩ h (fun v2 s3 h => ?_)
      refine wr_iconst (-1 : Int32) (wg_da dt_X12_wears 64 rfl) (by decide) ?_
      refine wr_icmp_eq 145 (wg_da dt_X12_wears 65 rfl) (by decide) h (fun h => ?_) (fun h => ?_)
      · exact wr_vret (wg_da dt_X12_wears 91 rfl) h
      · refine wr_aload_n (wg_da dt_X12_wears 66 rfl) rfl ?_
        refine wr_getR wf_X12_7 (wg_da dt_X12_wears 67 rfl) hx0 ?_
        refine wr_aload_n (wg_da dt_X12_wears 68 rfl) rfl ?_
        refine wr_iload_n (wg_da dt_X12_wears 69 rfl) rfl ?_
        refine wr_iload_n (wg_da dt_X12_wears 70 rfl) rfl ?_
        refine wr_callVi [.int x1, .int x2] [.ref (wg_r Sm x0 1)] (wg_da dt_X12_wears 71 rfl) ⟨wq_7_106, wq_7_108, wq_p4_6⟩ hx0 ⟨rfl, by decide⟩ wy_X12_ruleAt (fun q hq => m_X12_ruleAt l E x0 x1 x2 hx0 _ q hq) rfl rfl (Nat.le_of_ble_eq_true rfl) ⟨rfl, rfl, by decide, by decide⟩ h (fun v4 s5 h => ?_)
        refine wr_iconst (2 : Int32) (wg_da dt_X12_wears 72 rfl) (by decide) ?_
        refine wr_iadd (wg_da dt_X12_wears 73 rfl) ?_
        refine wr_aload_n (wg_da dt_X12_wears 74 rfl) rfl ?_
        refine wr_bipush (99 : Int32) (wg_da dt_X12_wears 75 rfl) (by decide) ?_
        refine wr_aload_n (wg_da dt_X12_wears 76 rfl) rfl ?_
        refine wr_getR wf_X12_7 (wg_da dt_X12_wears 77 rfl) hx0 ?_
        refine wr_aload_n (wg_da dt_X12_wears 78 rfl) rfl ?_
        refine wr_iload_n (wg_da dt_X12_wears 79 rfl) rfl ?_
        refine wr_iload_n (wg_da dt_X12_wears 80 rfl) rfl ?_
        refine wr_callVi [.int x1, .int x2] [.ref (wg_r Sm x0 1), .int (99 : Int32), .ref x0, .int (v4 + (2 : Int32)), .ref (wg_r Sm x0 1)] (wg_da dt_X12_wears 81 rfl) ⟨wq_7_106, wq_7_108, wq_p4_6⟩ hx0 ⟨rfl, by decide⟩ wy_X12_ruleAt (fun q hq => m_X12_ruleAt l E x0 x1 x2 hx0 _ q hq) rfl rfl (Nat.le_of_ble_eq_true rfl) ⟨rfl, rfl, by decide, by decide⟩ h (fun v6 s7 h => ?_)
        refine wr_iconst (2 : Int32) (wg_da dt_X12_wears 82 rfl) (by decide) ?_
        refine wr_iadd (wg_da dt_X12_wears 83 rfl) ?_
        refine wr_iald (wg_da dt_X12_wears 84 rfl) (wg_ty Sm_ok 12 1 0 hx0 rfl (by decide)).2 h (fun v8 h => ?_)
        refine wr_iconst (1 : Int32) (wg_da dt_X12_wears 85 rfl) (by decide) ?_
        refine wr_iadd (wg_da dt_X12_wears 86 rfl) ?_
        refine wr_callVi [.int (99 : Int32), .int (v8 + (1 : Int32))] [.int (v4 + (2 : Int32)), .ref (wg_r Sm x0 1)] (wg_da dt_X12_wears 87 rfl) ⟨wq_7_118, wq_7_120, wq_p4_9⟩ hx0 ⟨rfl, by decide⟩ wy_X12_lesser (fun q hq => m_X12_lesser l E x0 (99 : Int32) (v8 + (1 : Int32)) hx0 _ q hq) rfl rfl (Nat.le_of_ble_eq_true rfl) ⟨rfl, rfl, by decide, by decide⟩ h (fun v9 s10 h => ?_)
        refine wr_iast (wg_da dt_X12_wears 88 rfl) (wg_ty Sm_ok 12 1 0 hx0 rfl (by decide)).2 h (fun s11 h => ?_)
        refine wr_iinc (c0 := (1 : Int32)) (wg_da dt_X12_wears 89 rfl) rfl (by decide) (by decide) h (fun v12 h => ?_)
        refine wr_goto 83 (wg_da dt_X12_wears 90 rfl) (by decide) ?_
        exact wr_wk [true, true, true] (ih x0 x1 v12 s11 hx0 h)
set_option maxRecDepth 20000 in
theorem g_X12_wears_81 (l : Launch) (E : wg_E)  (x0 : Nat) (x1 : Int32) (σ : wg_M) (z : Int32 × wg_M) (hx0 : wg_t Sm x0 = 14) (h : f_X12_wears_81  x0 x1 σ = some z) : wg_G l E Sm "WornWigsModel" cX12_wears 3 none rm_X12_wears none z.2 81 [some (.ref x0), some (.int x1), none] [] σ := by
  refine wr_iconst (0 : Int32) (wg_da dt_X12_wears 51 rfl) (by decide) ?_
  refine wr_istore_n (wg_da dt_X12_wears 52 rfl) (by decide) ?_
  exact wr_wk [true, true, true] (g_X12_wears_83 l E  _  wg_N x0 x1 (0 : Int32) σ hx0 h)
set_option maxRecDepth 20000 in
theorem g_X12_wears_e (l : Launch) (E : wg_E)  (x0 : Nat) (x1 : Int32) (σ : wg_M) (z : Int32 × wg_M) (hx0 : wg_t Sm x0 = 14) (h : f_X12_wears  x0 x1 σ = some z) : wg_G l E Sm "WornWigsModel" cX12_wears 3 none rm_X12_wears none z.2 0 [some (.ref x0), some (.int x1), none] [] σ := by
  refine wr_aload_n (wg_da dt_X12_wears 0 rfl) rfl ?_
  refine wr_getR wf_X12_7 (wg_da dt_X12_wears 1 rfl) hx0 ?_
  refine wr_bipush (43 : Int32) (wg_da dt_X12_wears 2 rfl) (by decide) ?_
  refine wr_iload_n (wg_da dt_X12_wears 3 rfl) rfl ?_
  refine wr_iadd (wg_da dt_X12_wears 4 rfl) ?_
  refine wr_aload_n (wg_da dt_X12_wears 5 rfl) rfl ?_
  refine wr_iconst (0 : Int32) (wg_da dt_X12_wears 6 rfl) (by decide) ?_
  refine wr_aload_n (wg_da dt_X12_wears 7 rfl) rfl ?_
  refine wr_getR wf_X12_7 (wg_da dt_X12_wears 8 rfl) hx0 ?_
  refine wr_bipush (43 : Int32) (wg_da dt_X12_wears 9 rfl) (by decide) ?_
  refine wr_iload_n (wg_da dt_X12_wears 10 rfl) rfl ?_
  refine wr_iadd (wg_da dt_X12_wears 11 rfl) ?_
  refine wr_iald (wg_da dt_X12_wears 12 rfl) (wg_ty Sm_ok 12 1 0 hx0 rfl (by decide)).2 h (fun v1 h => ?_)
  refine wr_aload_n (wg_da dt_X12_wears 13 rfl) rfl ?_
  refine wr_iload_n (wg_da dt_X12_wears 14 rfl) rfl ?_
  refine wr_callVi [.int x1] [.int v1, .int (0 : Int32), .ref x0, .int ((43 : Int32) + x1), .ref (wg_r Sm x0 1)] (wg_da dt_X12_wears 15 rfl) ⟨wq_8_200, wq_8_202, wq_p9_1⟩ hx0 ⟨rfl, by decide⟩ wy_X12_mothOf (fun q hq => m_X12_mothOf l E x0 x1 hx0 _ q hq) rfl rfl (Nat.le_of_ble_eq_true rfl) ⟨rfl, rfl, by decide, by decide⟩ h (fun v2 s3 h => ?_)
  refine wr_isub (wg_da dt_X12_wears 16 rfl) ?_
  refine wr_callVi [.int (0 : Int32), .int (v1 - v2)] [.int ((43 : Int32) + x1), .ref (wg_r Sm x0 1)] (wg_da dt_X12_wears 17 rfl) ⟨wq_8_162, wq_8_164, wq_p8_9⟩ hx0 ⟨rfl, by decide⟩ wy_X12_greater (fun q hq => m_X12_greater l E x0 (0 : Int32) (v1 - v2) hx0 _ q hq) rfl rfl (Nat.le_of_ble_eq_true rfl) ⟨rfl, rfl, by decide, by decide⟩ h (fun v4 s5 h => ?_)
  refine wr_iast (wg_da dt_X12_wears 18 rfl) (wg_ty Sm_ok 12 1 0 hx0 rfl (by decide)).2 h (fun s6 h => ?_)
  refine wr_aload_n (wg_da dt_X12_wears 19 rfl) rfl ?_
  refine wr_getR wf_X12_7 (wg_da dt_X12_wears 20 rfl) hx0 ?_
  refine wr_bipush (43 : Int32) (wg_da dt_X12_wears 21 rfl) (by decide) ?_
  refine wr_iload_n (wg_da dt_X12_wears 22 rfl) rfl ?_
  refine wr_iadd (wg_da dt_X12_wears 23 rfl) ?_
  refine wr_iald (wg_da dt_X12_wears 24 rfl) (wg_ty Sm_ok 12 1 0 hx0 rfl (by decide)).2 h (fun v7 h => ?_)
  refine wr_if_ne 81 (wg_da dt_X12_wears 25 rfl) (by decide) h (fun h => ?_) (fun h => ?_)
  · refine wr_aload_n (wg_da dt_X12_wears 26 rfl) rfl ?_
    refine wr_getR wf_X12_7 (wg_da dt_X12_wears 27 rfl) hx0 ?_
    refine wr_bipush (67 : Int32) (wg_da dt_X12_wears 28 rfl) (by decide) ?_
    refine wr_iload_n (wg_da dt_X12_wears 29 rfl) rfl ?_
    refine wr_iadd (wg_da dt_X12_wears 30 rfl) ?_
    refine wr_iald (wg_da dt_X12_wears 31 rfl) (wg_ty Sm_ok 12 1 0 hx0 rfl (by decide)).2 h (fun v8 h => ?_)
    refine wr_if_le 81 (wg_da dt_X12_wears 32 rfl) (by decide) h (fun h => ?_) (fun h => ?_)
    · exact wr_wk [true, true, false] (g_X12_wears_81 l E  x0 x1 s6 _ hx0  h)
    · refine wr_aload_n (wg_da dt_X12_wears 33 rfl) rfl ?_
      refine wr_iconst (3 : Int32) (wg_da dt_X12_wears 34 rfl) (by decide) ?_
      refine wr_iload_n (wg_da dt_X12_wears 35 rfl) rfl ?_
      refine wr_aload_n (wg_da dt_X12_wears 36 rfl) rfl ?_
      refine wr_getR wf_X12_7 (wg_da dt_X12_wears 37 rfl) hx0 ?_
      refine wr_aload_n (wg_da dt_X12_wears 38 rfl) rfl ?_
      refine wr_iload_n (wg_da dt_X12_wears 39 rfl) rfl ?_
      refine wr_iconst (0 : Int32) (wg_da dt_X12_wears 40 rfl) (by decide) ?_
      refine wr_callVi [.int x1, .int (0 : Int32)] [.ref (wg_r Sm x0 1), .int x1, .int (3 : Int32), .ref x0] (wg_da dt_X12_wears 41 rfl) ⟨wq_7_106, wq_7_108, wq_p4_6⟩ hx0 ⟨rfl, by decide⟩ wy_X12_ruleAt (fun q hq => m_X12_ruleAt l E x0 x1 (0 : Int32) hx0 _ q hq) rfl rfl (Nat.le_of_ble_eq_true rfl) ⟨rfl, rfl, by decide, by decide⟩ h (fun v9 s10 h => ?_)
      refine wr_iald (wg_da dt_X12_wears 42 rfl) (wg_ty Sm_ok 12 1 0 hx0 rfl (by decide)).2 h (fun v11 h => ?_)
      refine wr_callVv [.int (3 : Int32), .int x1, .int v11] [] (wg_da dt_X12_wears 43 rfl) ⟨wq_8_114, wq_8_116, wq_p7_14⟩ hx0 ⟨rfl, by decide⟩ wy_X12_notes (fun q hq => m_X12_notes l E x0 (3 : Int32) x1 v11 hx0 _ q hq) rfl rfl (Nat.le_of_ble_eq_true rfl) ⟨rfl, rfl, by decide, by decide⟩ h (fun _ s12 h => ?_)
      refine wr_aload_n (wg_da dt_X12_wears 44 rfl) rfl ?_
      refine wr_iload_n (wg_da dt_X12_wears 45 rfl) rfl ?_
      refine wr_iconst (0 : Int32) (wg_da dt_X12_wears 46 rfl) (by decide) ?_
      refine wr_callVv [.int x1, .int (0 : Int32)] [] (wg_da dt_X12_wears 47 rfl) ⟨wq_8_122, wq_8_124, wq_p8_0⟩ hx0 ⟨rfl, by decide⟩ wy_X12_goesRule (fun q hq => m_X12_goesRule l E x0 x1 (0 : Int32) hx0 _ q hq) rfl rfl (Nat.le_of_ble_eq_true rfl) ⟨rfl, rfl, by decide, by decide⟩ h (fun _ s13 h => ?_)
      refine wr_aload_n (wg_da dt_X12_wears 48 rfl) rfl ?_
      refine wr_iload_n (wg_da dt_X12_wears 49 rfl) rfl ?_
      refine wr_callVv [.int x1] [] (wg_da dt_X12_wears 50 rfl) ⟨wq_7_110, wq_7_112, wq_p4_7⟩ hx0 ⟨rfl, by decide⟩ wy_X12_itches (fun q hq => m_X12_itches l E x0 x1 hx0 _ q hq) rfl rfl (Nat.le_of_ble_eq_true rfl) ⟨rfl, rfl, by decide, by decide⟩ h (fun _ s14 h => ?_)
      exact wr_wk [true, true, false] (g_X12_wears_81 l E  x0 x1 s14 _ hx0  h)
  · exact wr_wk [true, true, false] (g_X12_wears_81 l E  x0 x1 s6 _ hx0  h)
theorem m_X12_wears (l : Launch) (E : wg_E) (x0 : Nat) (x1 : Int32) (hx0 : wg_t Sm x0 = 14) (σ : wg_M) (q : Int32 × wg_M) (h : f_X12_wears x0 x1 σ = some q) : wg_MG l E Sm yX12_wears cX12_wears 3 none rm_X12_wears [.ref x0, .int x1] σ none q.2 :=
  wg_met [.ref x0, .int x1] (plainFor_of_name (by decide)) (Nat.le_of_ble_eq_true rfl) (g_X12_wears_e l E x0 x1 σ q hx0 h)

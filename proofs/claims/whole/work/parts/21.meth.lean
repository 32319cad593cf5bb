abbrev rm_X12_game : Room := { frames := 1, cells := 0, slots := 0, locals := 23 }
def tb_X12_game : List (Nat × Instr × Nat) := [(0, .aload_n 0, 1), (1, .iconst 0, 1), (2, .putfield 113, 3), (5, .aload_n 0, 1), (6, .iload_n 1, 1), (7, .iconst 0, 1), (8, .iconst 1, 1), (9, .invokevirtual 153, 3), (12, .ifCond .ne 5, 3), (15, .iconst (-1), 1), (16, .ireturn, 1), (17, .iconst 0, 1), (18, .istore_n 2, 1), (19, .iconst 0, 1), (20, .istore_n 3, 1), (21, .iload_n 3, 1), (22, .aload_n 0, 1), (23, .getfield 125, 3), (26, .if_icmp .ge 21, 3), (29, .iload_n 2, 1), (30, .aload_n 0, 1), (31, .getfield 7, 3), (34, .bipush 67, 2), (36, .iload_n 3, 1), (37, .iadd, 1), (38, .iaload, 1), (39, .ixor, 1), (40, .istore_n 2, 1), (41, .iinc 3 1, 3), (44, .goto (-23), 3), (47, .iconst 0, 1), (48, .istore_n 3, 1), (49, .iload_n 3, 1), (50, .aload_n 0, 1), (51, .getfield 125, 3), (54, .if_icmp .ge 57, 3), (57, .aload_n 0, 1), (58, .getfield 7, 3), (61, .bipush 67, 2), (63, .iload_n 3, 1), (64, .iadd, 1), (65, .iaload, 1), (66, .iload_n 2, 1), (67, .ixor, 1), (68, .istore 4, 2), (70, .iload 4, 2), (72, .aload_n 0, 1), (73, .getfield 7, 3), (76, .bipush 67, 2), (78, .iload_n 3, 1), (79, .iadd, 1), (80, .iaload, 1), (81, .if_icmp .ge 24, 3), (84, .iload_n 1, 1), (85, .ifCond .ne 7, 3), (88, .iload_n 3, 1), (89, .goto 15, 3), (92, .aload_n 0, 1), (93, .getfield 7, 3), (96, .bipush 67, 2), (98, .iload_n 3, 1), (99, .iadd, 1), (100, .iaload, 1), (101, .iload 4, 2), (103, .isub, 1), (104, .ireturn, 1), (105, .iinc 3 1, 3), (108, .goto (-59), 3), (111, .iconst (-1), 1), (112, .ireturn, 1)]
theorem dt_X12_game : wg_dc cX12_game tb_X12_game := by unfold wg_dc; decide +kernel
def f_X12_game_49  : Nat → Nat → Int32 → Int32 → Int32 → wg_M → Option (Int32 × wg_M)
  | 0, _, _, _, _, _ => none
  | n + 1, x0, x1, x2, x3, σ => if (σ x0 6) ≤ x3 then (some ((-1 : Int32), σ)) else (wg_ga (wg_n Sm (wg_r Sm x0 1)) (σ (wg_r Sm x0 1)) ((67 : Int32) + x3) (fun v1 => wg_let (v1 ^^^ x2) (fun v2 => wg_ga (wg_n Sm (wg_r Sm x0 1)) (σ (wg_r Sm x0 1)) ((67 : Int32) + x3) (fun v3 => if v3 ≤ v2 then (wg_let (x3 + (1 : Int32)) (fun v4 => f_X12_game_49  n x0 x1 x2 v4 σ)) else (if x1 = 0 then (some (x3, σ)) else (wg_ga (wg_n Sm (wg_r Sm x0 1)) (σ (wg_r Sm x0 1)) ((67 : Int32) + x3) (fun v5 => some (v5 - v2, σ))))))))
def f_X12_game_21  : Nat → Nat → Int32 → Int32 → Int32 → wg_M → Option (Int32 × wg_M)
  | 0, _, _, _, _, _ => none
  | n + 1, x0, x1, x2, x3, σ => if (σ x0 6) ≤ x3 then (f_X12_game_49  wg_N x0 x1 x2 (0 : Int32) σ) else (wg_ga (wg_n Sm (wg_r Sm x0 1)) (σ (wg_r Sm x0 1)) ((67 : Int32) + x3) (fun v1 => wg_let (x2 ^^^ v1) (fun v2 => wg_let (x3 + (1 : Int32)) (fun v3 => f_X12_game_21  n x0 x1 v2 v3 σ))))
def f_X12_game  (x0 : Nat) (x1 : Int32) (σ : wg_M) : Option (Int32 × wg_M) := wg_st σ x0 0 (0 : Int32) (fun s1 => wg_bd (f_X12_isIn x0 x1 (0 : Int32) (1 : Int32) s1) (fun v2 s3 => if v2 = 0 then (some ((-1 : Int32), s3)) else (f_X12_game_21  wg_N x0 x1 (0 : Int32) (0 : Int32) s3)))
set_option maxRecDepth 20000 in
theorem g_X12_game_49 (l : Launch) (E : wg_E)  (z : Int32 × wg_M) : ∀ (n : Nat) (x0 : Nat) (x1 : Int32) (x2 : Int32) (x3 : Int32) (σ : wg_M) (hx0 : wg_t Sm x0 = 14) (h : f_X12_game_49  n x0 x1 x2 x3 σ = some z), wg_G l E Sm "WornWigsModel" cX12_game 5 (some .int) rm_X12_game (some z.1) z.2 49 [some (.ref x0), some (.int x1), some (.int x2), some (.int x3), none] [] σ := by
  intro n
  induction n with
  | zero => intro x0 x1 x2 x3 σ hx0 h; cases h
  | succ n ih =>
    intro x0 x1 x2 x3 σ hx0 h
    refine wr_iload_n (wg_da dt_X12_game 32 rfl) rfl ?_
    refine wr_aload_n (wg_da dt_X12_game 33 rfl) rfl ?_
    refine wr_getI wf_X12_125 (wg_da dt_X12_game 34 rfl) hx0 ?_
    refine wr_icmp_ge 111 (wg_da dt_X12_game 35 rfl) (by decide) h (fun h => ?_) (fun h => ?_)
    · refine wr_iconst (-1 : Int32) (wg_da dt_X12_game 68 rfl) (by decide) ?_
      exact wr_iret (wg_da dt_X12_game 69 rfl) h
    · refine wr_aload_n (wg_da dt_X12_game 36 rfl) rfl ?_
      refine wr_getR wf_X12_7 (wg_da dt_X12_game 37 rfl) hx0 ?_
      refine wr_bipush (67 : Int32) (wg_da dt_X12_game 38 rfl) (by decide) ?_
      refine wr_iload_n (wg_da dt_X12_game 39 rfl) rfl ?_
      refine wr_iadd (wg_da dt_X12_game 40 rfl) ?_
      refine wr_iald (wg_da dt_X12_game 41 rfl) (wg_ty Sm_ok 12 1 0 hx0 rfl (by decide)).2 h (fun v1 h => ?_)
      refine wr_iload_n (wg_da dt_X12_game 42 rfl) rfl ?_
      refine wr_ixor (wg_da dt_X12_game 43 rfl) ?_
      refine wr_let h (fun v2 h => ?_)
      refine wr_istore (wg_da dt_X12_game 44 rfl) (by decide) ?_
      refine wr_iload (wg_da dt_X12_game 45 rfl) rfl ?_
      refine wr_aload_n (wg_da dt_X12_game 46 rfl) rfl ?_
      refine wr_getR wf_X12_7 (wg_da dt_X12_game 47 rfl) hx0 ?_
      refine wr_bipush (67 : Int32) (wg_da dt_X12_game 48 rfl) (by decide) ?_
      refine wr_iload_n (wg_da dt_X12_game 49 rfl) rfl ?_
      refine wr_iadd (wg_da dt_X12_game 50 rfl) ?_
      refine wr_iald (wg_da dt_X12_game 51 rfl) (wg_ty Sm_ok 12 1 0 hx0 rfl (by decide)).2 h (fun v3 h => ?_)
      refine wr_icmp_ge 105 (wg_da dt_X12_game 52 rfl) (by decide) h (fun h => ?_) (fun h => ?_)
      · refine wr_iinc (c0 := (1 : Int32)) (wg_da dt_X12_game 66 rfl) rfl (by decide) (by decide) h (fun v4 h => ?_)
        refine wr_goto 49 (wg_da dt_X12_game 67 rfl) (by decide) ?_
        exact wr_wk [true, true, true, true, false] (ih x0 x1 x2 v4 σ hx0 h)
      · refine wr_iload_n (wg_da dt_X12_game 53 rfl) rfl ?_
        refine wr_if_ne 92 (wg_da dt_X12_game 54 rfl) (by decide) h (fun h => ?_) (fun h => ?_)
        · refine wr_iload_n (wg_da dt_X12_game 55 rfl) rfl ?_
          refine wr_goto 104 (wg_da dt_X12_game 56 rfl) (by decide) ?_
          exact wr_iret (wg_da dt_X12_game 65 rfl) h
        · refine wr_aload_n (wg_da dt_X12_game 57 rfl) rfl ?_
          refine wr_getR wf_X12_7 (wg_da dt_X12_game 58 rfl) hx0 ?_
          refine wr_bipush (67 : Int32) (wg_da dt_X12_game 59 rfl) (by decide) ?_
          refine wr_iload_n (wg_da dt_X12_game 60 rfl) rfl ?_
          refine wr_iadd (wg_da dt_X12_game 61 rfl) ?_
          refine wr_iald (wg_da dt_X12_game 62 rfl) (wg_ty Sm_ok 12 1 0 hx0 rfl (by decide)).2 h (fun v5 h => ?_)
          refine wr_iload (wg_da dt_X12_game 63 rfl) rfl ?_
          refine wr_isub (wg_da dt_X12_game 64 rfl) ?_
          exact wr_iret (wg_da dt_X12_game 65 rfl) h
set_option maxRecDepth 20000 in
theorem g_X12_game_21 (l : Launch) (E : wg_E)  (z : Int32 × wg_M) : ∀ (n : Nat) (x0 : Nat) (x1 : Int32) (x2 : Int32) (x3 : Int32) (σ : wg_M) (hx0 : wg_t Sm x0 = 14) (h : f_X12_game_21  n x0 x1 x2 x3 σ = some z), wg_G l E Sm "WornWigsModel" cX12_game 5 (some .int) rm_X12_game (some z.1) z.2 21 [some (.ref x0), some (.int x1), some (.int x2), some (.int x3), none] [] σ := by
  intro n
  induction n with
  | zero => intro x0 x1 x2 x3 σ hx0 h; cases h
  | succ n ih =>
    intro x0 x1 x2 x3 σ hx0 h
    refine wr_iload_n (wg_da dt_X12_game 15 rfl) rfl ?_
    refine wr_aload_n (wg_da dt_X12_game 16 rfl) rfl ?_
    refine wr_getI wf_X12_125 (wg_da dt_X12_game 17 rfl) hx0 ?_
    refine wr_icmp_ge 47 (wg_da dt_X12_game 18 rfl) (by decide) h (fun h => ?_) (fun h => ?_)
    · refine wr_iconst (0 : Int32) (wg_da dt_X12_game 30 rfl) (by decide) ?_
      refine wr_istore_n (wg_da dt_X12_game 31 rfl) (by decide) ?_
      exact wr_wk [true, true, true, true, false] (g_X12_game_49 l E  _  wg_N x0 x1 x2 (0 : Int32) σ hx0 h)
    · refine wr_iload_n (wg_da dt_X12_game 19 rfl) rfl ?_
      refine wr_aload_n (wg_da dt_X12_game 20 rfl) rfl ?_
      refine wr_getR wf_X12_7 (wg_da dt_X12_game 21 rfl) hx0 ?_
      refine wr_bipush (67 : Int32) (wg_da dt_X12_game 22 rfl) (by decide) ?_
      refine wr_iload_n (wg_da dt_X12_game 23 rfl) rfl ?_
      refine wr_iadd (wg_da dt_X12_game 24 rfl) ?_
      refine wr_iald (wg_da dt_X12_game 25 rfl) (wg_ty Sm_ok 12 1 0 hx0 rfl (by decide)).2 h (fun v1 h => ?_)
      refine wr_ixor (wg_da dt_X12_game 26 rfl) ?_
      refine wr_let h (fun v2 h => ?_)
      refine wr_istore_n (wg_da dt_X12_game 27 rfl) (by decide) ?_
      refine wr_iinc (c0 := (1 : Int32)) (wg_da dt_X12_game 28 rfl) rfl (by decide) (by decide) h (fun v3 h => ?_)
      refine wr_goto 21 (wg_da dt_X12_game 29 rfl) (by decide) ?_
      exact wr_wk [true, true, true, true, false] (ih x0 x1 v2 v3 σ hx0 h)
set_option maxRecDepth 20000 in
theorem g_X12_game_e (l : Launch) (E : wg_E)  (x0 : Nat) (x1 : Int32) (σ : wg_M) (z : Int32 × wg_M) (hx0 : wg_t Sm x0 = 14) (h : f_X12_game  x0 x1 σ = some z) : wg_G l E Sm "WornWigsModel" cX12_game 5 (some .int) rm_X12_game (some z.1) z.2 0 [some (.ref x0), some (.int x1), none, none, none] [] σ := by
  refine wr_aload_n (wg_da dt_X12_game 0 rfl) rfl ?_
  refine wr_iconst (0 : Int32) (wg_da dt_X12_game 1 rfl) (by decide) ?_
  refine wr_putI wfp_X12_113 (wg_da dt_X12_game 2 rfl) hx0 h (fun s1 h => ?_)
  refine wr_aload_n (wg_da dt_X12_game 3 rfl) rfl ?_
  refine wr_iload_n (wg_da dt_X12_game 4 rfl) rfl ?_
  refine wr_iconst (0 : Int32) (wg_da dt_X12_game 5 rfl) (by decide) ?_
  refine wr_iconst (1 : Int32) (wg_da dt_X12_game 6 rfl) (by decide) ?_
  refine wr_callVi [.int x1, .int (0 : Int32), .int (1 : Int32)] [] (wg_da dt_X12_game 7 rfl) ⟨wq_7_82, wq_7_84, wq_p4_3⟩ hx0 ⟨rfl, by decide⟩ wy_X12_isIn (fun q hq => m_X12_isIn l E x0 x1 (0 : Int32) (1 : Int32) hx0 _ q hq) rfl rfl (Nat.le_of_ble_eq_true rfl) ⟨rfl, rfl, by decide, by decide⟩ h (fun v2 s3 h => ?_)
  refine wr_if_ne 17 (wg_da dt_X12_game 8 rfl) (by decide) h (fun h => ?_) (fun h => ?_)
  · refine wr_iconst (-1 : Int32) (wg_da dt_X12_game 9 rfl) (by decide) ?_
    exact wr_iret (wg_da dt_X12_game 10 rfl) h
  · refine wr_iconst (0 : Int32) (wg_da dt_X12_game 11 rfl) (by decide) ?_
    refine wr_istore_n (wg_da dt_X12_game 12 rfl) (by decide) ?_
    refine wr_iconst (0 : Int32) (wg_da dt_X12_game 13 rfl) (by decide) ?_
    refine wr_istore_n (wg_da dt_X12_game 14 rfl) (by decide) ?_
    exact wr_wk [true, true, true, true, false] (g_X12_game_21 l E  _  wg_N x0 x1 (0 : Int32) (0 : Int32) s3 hx0 h)
theorem m_X12_game (l : Launch) (E : wg_E) (x0 : Nat) (x1 : Int32) (hx0 : wg_t Sm x0 = 14) (σ : wg_M) (q : Int32 × wg_M) (h : f_X12_game x0 x1 σ = some q) : wg_MG l E Sm yX12_game cX12_game 5 (some .int) rm_X12_game [.ref x0, .int x1] σ (some q.1) q.2 :=
  wg_met [.ref x0, .int x1] (plainFor_of_name (by decide)) (Nat.le_of_ble_eq_true rfl) (g_X12_game_e l E x0 x1 σ q hx0 h)
abbrev rm_X12_keeps : Room := { frames := 0, cells := 0, slots := 0, locals := 0 }
def tb_X12_keeps : List (Nat × Instr × Nat) := [(0, .aload_n 0, 1), (1, .aload_n 0, 1), (2, .getfield 508, 3), (5, .iconst 1, 1), (6, .iadd, 1), (7, .putfield 508, 3), (10, .aload_n 0, 1), (11, .getfield 511, 3), (14, .ifCond .ne 15, 3), (17, .aload_n 0, 1), (18, .getfield 110, 3), (21, .aload_n 0, 1), (22, .getfield 508, 3), (25, .iconst 1, 1), (26, .isub, 1), (27, .iaload, 1), (28, .ireturn, 1), (29, .aload_n 0, 1), (30, .getfield 110, 3), (33, .aload_n 0, 1), (34, .getfield 508, 3), (37, .iconst 1, 1), (38, .isub, 1), (39, .iload_n 1, 1), (40, .iastore, 1), (41, .iload_n 1, 1), (42, .ireturn, 1)]
theorem dt_X12_keeps : wg_dc cX12_keeps tb_X12_keeps := by unfold wg_dc; decide +kernel
def f_X12_keeps  (x0 : Nat) (x1 : Int32) (σ : wg_M) : Option (Int32 × wg_M) := wg_st σ x0 59 ((σ x0 59) + (1 : Int32)) (fun s1 => if (s1 x0 57) = 0 then (wg_ga (wg_n Sm (wg_r Sm x0 60)) (s1 (wg_r Sm x0 60)) ((s1 x0 59) - (1 : Int32)) (fun v3 => some (v3, s1))) else (wg_sa (wg_n Sm (wg_r Sm x0 60)) s1 (wg_r Sm x0 60) ((s1 x0 59) - (1 : Int32)) x1 (fun s2 => some (x1, s2))))
set_option maxRecDepth 20000 in
theorem g_X12_keeps_e (l : Launch) (E : wg_E)  (x0 : Nat) (x1 : Int32) (σ : wg_M) (z : Int32 × wg_M) (hx0 : wg_t Sm x0 = 14) (h : f_X12_keeps  x0 x1 σ = some z) : wg_G l E Sm "WornWigsModel" cX12_keeps 2 (some .int) rm_X12_keeps (some z.1) z.2 0 [some (.ref x0), some (.int x1)] [] σ := by
  refine wr_aload_n (wg_da dt_X12_keeps 0 rfl) rfl ?_
  refine wr_aload_n (wg_da dt_X12_keeps 1 rfl) rfl ?_
  refine wr_getI wf_X12_508 (wg_da dt_X12_keeps 2 rfl) hx0 ?_
  refine wr_iconst (1 : Int32) (wg_da dt_X12_keeps 3 rfl) (by decide) ?_
  refine wr_iadd (wg_da dt_X12_keeps 4 rfl) ?_
  refine wr_putI wfp_X12_508 (wg_da dt_X12_keeps 5 rfl) hx0 h (fun s1 h => ?_)
  refine wr_aload_n (wg_da dt_X12_keeps 6 rfl) rfl ?_
  refine wr_getI wf_X12_511 (wg_da dt_X12_keeps 7 rfl) hx0 ?_
  refine wr_if_ne 29 (wg_da dt_X12_keeps 8 rfl) (by decide) h (fun h => ?_) (fun h => ?_)
  · refine wr_aload_n (wg_da dt_X12_keeps 9 rfl) rfl ?_
    refine wr_getR wf_X12_110 (wg_da dt_X12_keeps 10 rfl) hx0 ?_
    refine wr_aload_n (wg_da dt_X12_keeps 11 rfl) rfl ?_
    refine wr_getI wf_X12_508 (wg_da dt_X12_keeps 12 rfl) hx0 ?_
    refine wr_iconst (1 : Int32) (wg_da dt_X12_keeps 13 rfl) (by decide) ?_
    refine wr_isub (wg_da dt_X12_keeps 14 rfl) ?_
    refine wr_iald (wg_da dt_X12_keeps 15 rfl) (wg_ty Sm_ok 12 60 0 hx0 rfl (by decide)).2 h (fun v3 h => ?_)
    exact wr_iret (wg_da dt_X12_keeps 16 rfl) h
  · refine wr_aload_n (wg_da dt_X12_keeps 17 rfl) rfl ?_
    refine wr_getR wf_X12_110 (wg_da dt_X12_keeps 18 rfl) hx0 ?_
    refine wr_aload_n (wg_da dt_X12_keeps 19 rfl) rfl ?_
    refine wr_getI wf_X12_508 (wg_da dt_X12_keeps 20 rfl) hx0 ?_
    refine wr_iconst (1 : Int32) (wg_da dt_X12_keeps 21 rfl) (by decide) ?_
    refine wr_isub (wg_da dt_X12_keeps 22 rfl) ?_
    refine wr_iload_n (wg_da dt_X12_keeps 23 rfl) rfl ?_
    refine wr_iast (wg_da dt_X12_keeps 24 rfl) (wg_ty Sm_ok 12 60 0 hx0 rfl (by decide)).2 h (fun s2 h => ?_)
    refine wr_iload_n (wg_da dt_X12_keeps 25 rfl) rfl ?_
    exact wr_iret (wg_da dt_X12_keeps 26 rfl) h
theorem m_X12_keeps (l : Launch) (E : wg_E) (x0 : Nat) (x1 : Int32) (hx0 : wg_t Sm x0 = 14) (σ : wg_M) (q : Int32 × wg_M) (h : f_X12_keeps x0 x1 σ = some q) : wg_MG l E Sm yX12_keeps cX12_keeps 2 (some .int) rm_X12_keeps [.ref x0, .int x1] σ (some q.1) q.2 :=
  wg_met [.ref x0, .int x1] (plainFor_of_name (by decide)) (Nat.le_of_ble_eq_true rfl) (g_X12_keeps_e l E x0 x1 σ q hx0 h)
abbrev rm_X12_keepsLaw : Room := { frames := 1, cells := 0, slots := 0, locals := 21 }
def tb_X12_keepsLaw : List (Nat × Instr × Nat) := [(0, .aload_n 0, 1), (1, .getfield 40, 3), (4, .iconst 0, 1), (5, .aload_n 0, 1), (6, .aload_n 0, 1), (7, .getfield 40, 3), (10, .iconst 0, 1), (11, .iaload, 1), (12, .invokevirtual 514, 3), (15, .iastore, 1), (16, .iconst 0, 1), (17, .istore_n 1, 1), (18, .iload_n 1, 1), (19, .bipush 16, 2), (21, .if_icmp .ge 73, 3), (24, .aload_n 0, 1), (25, .getfield 43, 3), (28, .iload_n 1, 1), (29, .aload_n 0, 1), (30, .aload_n 0, 1), (31, .getfield 43, 3), (34, .iload_n 1, 1), (35, .iaload, 1), (36, .invokevirtual 514, 3), (39, .iastore, 1), (40, .aload_n 0, 1), (41, .getfield 46, 3), (44, .iload_n 1, 1), (45, .aload_n 0, 1), (46, .aload_n 0, 1), (47, .getfield 46, 3), (50, .iload_n 1, 1), (51, .iaload, 1), (52, .invokevirtual 514, 3), (55, .iastore, 1), (56, .aload_n 0, 1), (57, .getfield 49, 3), (60, .iload_n 1, 1), (61, .aload_n 0, 1), (62, .aload_n 0, 1), (63, .getfield 49, 3), (66, .iload_n 1, 1), (67, .iaload, 1), (68, .invokevirtual 514, 3), (71, .iastore, 1), (72, .aload_n 0, 1), (73, .getfield 52, 3), (76, .iload_n 1, 1), (77, .aload_n 0, 1), (78, .aload_n 0, 1), (79, .getfield 52, 3), (82, .iload_n 1, 1), (83, .iaload, 1), (84, .invokevirtual 514, 3), (87, .iastore, 1), (88, .iinc 1 1, 3), (91, .goto (-73), 3), (94, .iconst 0, 1), (95, .istore_n 1, 1), (96, .iload_n 1, 1), (97, .sipush 400, 3), (100, .if_icmp .ge 41, 3), (103, .aload_n 0, 1), (104, .getfield 55, 3), (107, .iload_n 1, 1), (108, .aload_n 0, 1), (109, .aload_n 0, 1), (110, .getfield 55, 3), (113, .iload_n 1, 1), (114, .iaload, 1), (115, .invokevirtual 514, 3), (118, .iastore, 1), (119, .aload_n 0, 1), (120, .getfield 58, 3), (123, .iload_n 1, 1), (124, .aload_n 0, 1), (125, .aload_n 0, 1), (126, .getfield 58, 3), (129, .iload_n 1, 1), (130, .iaload, 1), (131, .invokevirtual 514, 3), (134, .iastore, 1), (135, .iinc 1 1, 3), (138, .goto (-42), 3), (141, .return_, 1)]
theorem dt_X12_keepsLaw : wg_dc cX12_keepsLaw tb_X12_keepsLaw := by unfold wg_dc; decide +kernel
def f_X12_keepsLaw_96  : Nat → Nat → Int32 → wg_M → Option (Int32 × wg_M)
  | 0, _, _, _ => none
  | n + 1, x0, x1, σ => if (400 : Int32) ≤ x1 then (some (0, σ)) else (wg_ga (wg_n Sm (wg_r Sm x0 26)) (σ (wg_r Sm x0 26)) x1 (fun v1 => wg_bd (f_X12_keeps x0 v1 σ) (fun v2 s3 => wg_sa (wg_n Sm (wg_r Sm x0 26)) s3 (wg_r Sm x0 26) x1 v2 (fun s4 => wg_ga (wg_n Sm (wg_r Sm x0 27)) (s4 (wg_r Sm x0 27)) x1 (fun v5 => wg_bd (f_X12_keeps x0 v5 s4) (fun v6 s7 => wg_sa (wg_n Sm (wg_r Sm x0 27)) s7 (wg_r Sm x0 27) x1 v6 (fun s8 => wg_let (x1 + (1 : Int32)) (fun v9 => f_X12_keepsLaw_96  n x0 v9 s8))))))))
def f_X12_keepsLaw_18  : Nat → Nat → Int32 → wg_M → Option (Int32 × wg_M)
  | 0, _, _, _ => none
  | n + 1, x0, x1, σ => if (16 : Int32) ≤ x1 then (f_X12_keepsLaw_96  wg_N x0 (0 : Int32) σ) else (wg_ga (wg_n Sm (wg_r Sm x0 22)) (σ (wg_r Sm x0 22)) x1 (fun v1 => wg_bd (f_X12_keeps x0 v1 σ) (fun v2 s3 => wg_sa (wg_n Sm (wg_r Sm x0 22)) s3 (wg_r Sm x0 22) x1 v2 (fun s4 => wg_ga (wg_n Sm (wg_r Sm x0 23)) (s4 (wg_r Sm x0 23)) x1 (fun v5 => wg_bd (f_X12_keeps x0 v5 s4) (fun v6 s7 => wg_sa (wg_n Sm (wg_r Sm x0 23)) s7 (wg_r Sm x0 23) x1 v6 (fun s8 => wg_ga (wg_n Sm (wg_r Sm x0 24)) (s8 (wg_r Sm x0 24)) x1 (fun v9 => wg_bd (f_X12_keeps x0 v9 s8) (fun v10 s11 => wg_sa (wg_n Sm (wg_r Sm x0 24)) s11 (wg_r Sm x0 24) x1 v10 (fun s12 => wg_ga (wg_n Sm (wg_r Sm x0 25)) (s12 (wg_r Sm x0 25)) x1 (fun v13 => wg_bd (f_X12_keeps x0 v13 s12) (fun v14 s15 => wg_sa (wg_n Sm (wg_r Sm x0 25)) s15 (wg_r Sm x0 25) x1 v14 (fun s16 => wg_let (x1 + (1 : Int32)) (fun v17 => f_X12_keepsLaw_18  n x0 v17 s16))))))))))))))
def f_X12_keepsLaw  (x0 : Nat) (σ : wg_M) : Option (Int32 × wg_M) := wg_ga (wg_n Sm (wg_r Sm x0 21)) (σ (wg_r Sm x0 21)) (0 : Int32) (fun v1 => wg_bd (f_X12_keeps x0 v1 σ) (fun v2 s3 => wg_sa (wg_n Sm (wg_r Sm x0 21)) s3 (wg_r Sm x0 21) (0 : Int32) v2 (fun s4 => f_X12_keepsLaw_18  wg_N x0 (0 : Int32) s4)))
set_option maxRecDepth 20000 in
theorem g_X12_keepsLaw_96 (l : Launch) (E : wg_E)  (z : Int32 × wg_M) : ∀ (n : Nat) (x0 : Nat) (x1 : Int32) (σ : wg_M) (hx0 : wg_t Sm x0 = 14) (h : f_X12_keepsLaw_96  n x0 x1 σ = some z), wg_G l E Sm "WornWigsModel" cX12_keepsLaw 2 none rm_X12_keepsLaw none z.2 96 [some (.ref x0), some (.int x1)] [] σ := by
  intro n
  induction n with
  | zero => intro x0 x1 σ hx0 h; cases h
  | succ n ih =>
    intro x0 x1 σ hx0 h
    refine wr_iload_n (wg_da dt_X12_keepsLaw 59 rfl) rfl ?_
    refine wr_sipush (400 : Int32) (wg_da dt_X12_keepsLaw 60 rfl) (by decide) ?_
    refine wr_icmp_ge 141 (wg_da dt_X12_keepsLaw 61 rfl) (by decide) h (fun h => ?_) (fun h => ?_)
    · exact wr_vret (wg_da dt_X12_keepsLaw 84 rfl) h
    · refine wr_aload_n (wg_da dt_X12_keepsLaw 62 rfl) rfl ?_
      refine wr_getR wf_X12_55 (wg_da dt_X12_keepsLaw 63 rfl) hx0 ?_
      refine wr_iload_n (wg_da dt_X12_keepsLaw 64 rfl) rfl ?_
      refine wr_aload_n (wg_da dt_X12_keepsLaw 65 rfl) rfl ?_
      refine wr_aload_n (wg_da dt_X12_keepsLaw 66 rfl) rfl ?_
      refine wr_getR wf_X12_55 (wg_da dt_X12_keepsLaw 67 rfl) hx0 ?_
      refine wr_iload_n (wg_da dt_X12_keepsLaw 68 rfl) rfl ?_
      refine wr_iald (wg_da dt_X12_keepsLaw 69 rfl) (wg_ty Sm_ok 12 26 0 hx0 rfl (by decide)).2 h (fun v1 h => ?_)
      refine wr_callVi [.int v1] [.int x1, .ref (wg_r Sm x0 26)] (wg_da dt_X12_keepsLaw 70 rfl) ⟨wq_9_154, wq_9_156, wq_p10_9⟩ hx0 ⟨rfl, by decide⟩ wy_X12_keeps (fun q hq => m_X12_keeps l E x0 v1 hx0 _ q hq) rfl rfl (Nat.le_of_ble_eq_true rfl) ⟨rfl, rfl, by decide, by decide⟩ h (fun v2 s3 h => ?_)
      refine wr_iast (wg_da dt_X12_keepsLaw 71 rfl) (wg_ty Sm_ok 12 26 0 hx0 rfl (by decide)).2 h (fun s4 h => ?_)
      refine wr_aload_n (wg_da dt_X12_keepsLaw 72 rfl) rfl ?_
      refine wr_getR wf_X12_58 (wg_da dt_X12_keepsLaw 73 rfl) hx0 ?_
      refine wr_iload_n (wg_da dt_X12_keepsLaw 74 rfl) rfl ?_
      refine wr_aload_n (wg_da dt_X12_keepsLaw 75 rfl) rfl ?_
      refine wr_aload_n (wg_da dt_X12_keepsLaw 76 rfl) rfl ?_
      refine wr_getR wf_X12_58 (wg_da dt_X12_keepsLaw 77 rfl) hx0 ?_
      refine wr_iload_n (wg_da dt_X12_keepsLaw 78 rfl) rfl ?_
      refine wr_iald (wg_da dt_X12_keepsLaw 79 rfl) (wg_ty Sm_ok 12 27 0 hx0 rfl (by decide)).2 h (fun v5 h => ?_)
      refine wr_callVi [.int v5] [.int x1, .ref (wg_r Sm x0 27)] (wg_da dt_X12_keepsLaw 80 rfl) ⟨wq_9_154, wq_9_156, wq_p10_9⟩ hx0 ⟨rfl, by decide⟩ wy_X12_keeps (fun q hq => m_X12_keeps l E x0 v5 hx0 _ q hq) rfl rfl (Nat.le_of_ble_eq_true rfl) ⟨rfl, rfl, by decide, by decide⟩ h (fun v6 s7 h => ?_)
      refine wr_iast (wg_da dt_X12_keepsLaw 81 rfl) (wg_ty Sm_ok 12 27 0 hx0 rfl (by decide)).2 h (fun s8 h => ?_)
      refine wr_iinc (c0 := (1 : Int32)) (wg_da dt_X12_keepsLaw 82 rfl) rfl (by decide) (by decide) h (fun v9 h => ?_)
      refine wr_goto 96 (wg_da dt_X12_keepsLaw 83 rfl) (by decide) ?_
      exact wr_wk [true, true] (ih x0 v9 s8 hx0 h)
set_option maxRecDepth 20000 in
theorem g_X12_keepsLaw_18 (l : Launch) (E : wg_E)  (z : Int32 × wg_M) : ∀ (n : Nat) (x0 : Nat) (x1 : Int32) (σ : wg_M) (hx0 : wg_t Sm x0 = 14) (h : f_X12_keepsLaw_18  n x0 x1 σ = some z), wg_G l E Sm "WornWigsModel" cX12_keepsLaw 2 none rm_X12_keepsLaw none z.2 18 [some (.ref x0), some (.int x1)] [] σ := by
  intro n
  induction n with
  | zero => intro x0 x1 σ hx0 h; cases h
  | succ n ih =>
    intro x0 x1 σ hx0 h
    refine wr_iload_n (wg_da dt_X12_keepsLaw 12 rfl) rfl ?_
    refine wr_bipush (16 : Int32) (wg_da dt_X12_keepsLaw 13 rfl) (by decide) ?_
    refine wr_icmp_ge 94 (wg_da dt_X12_keepsLaw 14 rfl) (by decide) h (fun h => ?_) (fun h => ?_)
    · refine wr_iconst (0 : Int32) (wg_da dt_X12_keepsLaw 57 rfl) (by decide) ?_
      refine wr_istore_n (wg_da dt_X12_keepsLaw 58 rfl) (by decide) ?_
      exact wr_wk [true, true] (g_X12_keepsLaw_96 l E  _  wg_N x0 (0 : Int32) σ hx0 h)
    · refine wr_aload_n (wg_da dt_X12_keepsLaw 15 rfl) rfl ?_
      refine wr_getR wf_X12_43 (wg_da dt_X12_keepsLaw 16 rfl) hx0 ?_
      refine wr_iload_n (wg_da dt_X12_keepsLaw 17 rfl) rfl ?_
      refine wr_aload_n (wg_da dt_X12_keepsLaw 18 rfl) rfl ?_
      refine wr_aload_n (wg_da dt_X12_keepsLaw 19 rfl) rfl ?_
      refine wr_getR wf_X12_43 (wg_da dt_X12_keepsLaw 20 rfl) hx0 ?_
      refine wr_iload_n (wg_da dt_X12_keepsLaw 21 rfl) rfl ?_
      refine wr_iald (wg_da dt_X12_keepsLaw 22 rfl) (wg_ty Sm_ok 12 22 0 hx0 rfl (by decide)).2 h (fun v1 h => ?_)
      refine wr_callVi [.int v1] [.int x1, .ref (wg_r Sm x0 22)] (wg_da dt_X12_keepsLaw 23 rfl) ⟨wq_9_154, wq_9_156, wq_p10_9⟩ hx0 ⟨rfl, by decide⟩ wy_X12_keeps (fun q hq => m_X12_keeps l E x0 v1 hx0 _ q hq) rfl rfl (Nat.le_of_ble_eq_true rfl) ⟨rfl, rfl, by decide, by decide⟩ h (fun v2 s3 h => ?_)
      refine wr_iast (wg_da dt_X12_keepsLaw 24 rfl) (wg_ty Sm_ok 12 22 0 hx0 rfl (by decide)).2 h (fun s4 h => ?_)
      refine wr_aload_n (wg_da dt_X12_keepsLaw 25 rfl) rfl ?_
      refine wr_getR wf_X12_46 (wg_da dt_X12_keepsLaw 26 rfl) hx0 ?_
      refine wr_iload_n (wg_da dt_X12_keepsLaw 27 rfl) rfl ?_
      refine wr_aload_n (wg_da dt_X12_keepsLaw 28 rfl) rfl ?_
      refine wr_aload_n (wg_da dt_X12_keepsLaw 29 rfl) rfl ?_
      refine wr_getR wf_X12_46 (wg_da dt_X12_keepsLaw 30 rfl) hx0 ?_
      refine wr_iload_n (wg_da dt_X12_keepsLaw 31 rfl) rfl ?_
      refine wr_iald (wg_da dt_X12_keepsLaw 32 rfl) (wg_ty Sm_ok 12 23 0 hx0 rfl (by decide)).2 h (fun v5 h => ?_)
      refine wr_callVi [.int v5] [.int x1, .ref (wg_r Sm x0 23)] (wg_da dt_X12_keepsLaw 33 rfl) ⟨wq_9_154, wq_9_156, wq_p10_9⟩ hx0 ⟨rfl, by decide⟩ wy_X12_keeps (fun q hq => m_X12_keeps l E x0 v5 hx0 _ q hq) rfl rfl (Nat.le_of_ble_eq_true rfl) ⟨rfl, rfl, by decide, by decide⟩ h (fun v6 s7 h => ?_)
      refine wr_iast (wg_da dt_X12_keepsLaw 34 rfl) (wg_ty Sm_ok 12 23 0 hx0 rfl (by decide)).2 h (fun s8 h => ?_)
      refine wr_aload_n (wg_da dt_X12_keepsLaw 35 rfl) rfl ?_
      refine wr_getR wf_X12_49 (wg_da dt_X12_keepsLaw 36 rfl) hx0 ?_
      refine wr_iload_n (wg_da dt_X12_keepsLaw 37 rfl) rfl ?_
      refine wr_aload_n (wg_da dt_X12_keepsLaw 38 rfl) rfl ?_
      refine wr_aload_n (wg_da dt_X12_keepsLaw 39 rfl) rfl ?_
      refine wr_getR wf_X12_49 (wg_da dt_X12_keepsLaw 40 rfl) hx0 ?_
      refine wr_iload_n (wg_da dt_X12_keepsLaw 41 rfl) rfl ?_
      refine wr_iald (wg_da dt_X12_keepsLaw 42 rfl) (wg_ty Sm_ok 12 24 0 hx0 rfl (by decide)).2 h (fun v9 h => ?_)
      refine wr_callVi [.int v9] [.int x1, .ref (wg_r Sm x0 24)] (wg_da dt_X12_keepsLaw 43 rfl) ⟨wq_9_154, wq_9_156, wq_p10_9⟩ hx0 ⟨rfl, by decide⟩ wy_X12_keeps (fun q hq => m_X12_keeps l E x0 v9 hx0 _ q hq) rfl rfl (Nat.le_of_ble_eq_true rfl) ⟨rfl, rfl, by decide, by decide⟩ h (fun v10 s11 h => ?_)
      refine wr_iast (wg_da dt_X12_keepsLaw 44 rfl) (wg_ty Sm_ok 12 24 0 hx0 rfl (by decide)).2 h (fun s12 h => ?_)
      refine wr_aload_n (wg_da dt_X12_keepsLaw 45 rfl) rfl ?_
      refine wr_getR wf_X12_52 (wg_da dt_X12_keepsLaw 46 rfl) hx0 ?_
      refine wr_iload_n (wg_da dt_X12_keepsLaw 47 rfl) rfl ?_
      refine wr_aload_n (wg_da dt_X12_keepsLaw 48 rfl) rfl ?_
      refine wr_aload_n (wg_da dt_X12_keepsLaw 49 rfl) rfl ?_
      refine wr_getR wf_X12_52 (wg_da dt_X12_keepsLaw 50 rfl) hx0 ?_
      refine wr_iload_n (wg_da dt_X12_keepsLaw 51 rfl) rfl ?_
      refine wr_iald (wg_da dt_X12_keepsLaw 52 rfl) (wg_ty Sm_ok 12 25 0 hx0 rfl (by decide)).2 h (fun v13 h => ?_)
      refine wr_callVi [.int v13] [.int x1, .ref (wg_r Sm x0 25)] (wg_da dt_X12_keepsLaw 53 rfl) ⟨wq_9_154, wq_9_156, wq_p10_9⟩ hx0 ⟨rfl, by decide⟩ wy_X12_keeps (fun q hq => m_X12_keeps l E x0 v13 hx0 _ q hq) rfl rfl (Nat.le_of_ble_eq_true rfl) ⟨rfl, rfl, by decide, by decide⟩ h (fun v14 s15 h => ?_)
      refine wr_iast (wg_da dt_X12_keepsLaw 54 rfl) (wg_ty Sm_ok 12 25 0 hx0 rfl (by decide)).2 h (fun s16 h => ?_)
      refine wr_iinc (c0 := (1 : Int32)) (wg_da dt_X12_keepsLaw 55 rfl) rfl (by decide) (by decide) h (fun v17 h => ?_)
      refine wr_goto 18 (wg_da dt_X12_keepsLaw 56 rfl) (by decide) ?_
      exact wr_wk [true, true] (ih x0 v17 s16 hx0 h)
set_option maxRecDepth 20000 in
theorem g_X12_keepsLaw_e (l : Launch) (E : wg_E)  (x0 : Nat) (σ : wg_M) (z : Int32 × wg_M) (hx0 : wg_t Sm x0 = 14) (h : f_X12_keepsLaw  x0 σ = some z) : wg_G l E Sm "WornWigsModel" cX12_keepsLaw 2 none rm_X12_keepsLaw none z.2 0 [some (.ref x0), none] [] σ := by
  refine wr_aload_n (wg_da dt_X12_keepsLaw 0 rfl) rfl ?_
  refine wr_getR wf_X12_40 (wg_da dt_X12_keepsLaw 1 rfl) hx0 ?_
  refine wr_iconst (0 : Int32) (wg_da dt_X12_keepsLaw 2 rfl) (by decide) ?_
  refine wr_aload_n (wg_da dt_X12_keepsLaw 3 rfl) rfl ?_
  refine wr_aload_n (wg_da dt_X12_keepsLaw 4 rfl) rfl ?_
  refine wr_getR wf_X12_40 (wg_da dt_X12_keepsLaw 5 rfl) hx0 ?_
  refine wr_iconst (0 : Int32) (wg_da dt_X12_keepsLaw 6 rfl) (by decide) ?_
  refine wr_iald (wg_da dt_X12_keepsLaw 7 rfl) (wg_ty Sm_ok 12 21 0 hx0 rfl (by decide)).2 h (fun v1 h => ?_)
  refine wr_callVi [.int v1] [.int (0 : Int32), .ref (wg_r Sm x0 21)] (wg_da dt_X12_keepsLaw 8 rfl) ⟨wq_9_154, wq_9_156, wq_p10_9⟩ hx0 ⟨rfl, by decide⟩ wy_X12_keeps (fun q hq => m_X12_keeps l E x0 v1 hx0 _ q hq) rfl rfl (Nat.le_of_ble_eq_true rfl) ⟨rfl, rfl, by decide, by decide⟩ h (fun v2 s3 h => ?_)
  refine wr_iast (wg_da dt_X12_keepsLaw 9 rfl) (wg_ty Sm_ok 12 21 0 hx0 rfl (by decide)).2 h (fun s4 h => ?_)
  refine wr_iconst (0 : Int32) (wg_da dt_X12_keepsLaw 10 rfl) (by decide) ?_
  refine wr_istore_n (wg_da dt_X12_keepsLaw 11 rfl) (by decide) ?_
  exact wr_wk [true, true] (g_X12_keepsLaw_18 l E  _  wg_N x0 (0 : Int32) s4 hx0 h)
theorem m_X12_keepsLaw (l : Launch) (E : wg_E) (x0 : Nat) (hx0 : wg_t Sm x0 = 14) (σ : wg_M) (q : Int32 × wg_M) (h : f_X12_keepsLaw x0 σ = some q) : wg_MG l E Sm yX12_keepsLaw cX12_keepsLaw 2 none rm_X12_keepsLaw [.ref x0] σ none q.2 :=
  wg_met [.ref x0] (plainFor_of_name (by decide)) (Nat.le_of_ble_eq_true rfl) (g_X12_keepsLaw_e l E x0 σ q hx0 h)
abbrev rm_X12_keepsMany : Room := { frames := 1, cells := 0, slots := 0, locals := 21 }
def tb_X12_keepsMany : List (Nat × Instr × Nat) := [(0, .aload_n 0, 1), (1, .aload_n 0, 1), (2, .aload_n 0, 1), (3, .getfield 125, 3), (6, .invokevirtual 514, 3), (9, .putfield 125, 3), (12, .aload_n 0, 1), (13, .aload_n 0, 1), (14, .aload_n 0, 1), (15, .getfield 128, 3), (18, .invokevirtual 514, 3), (21, .putfield 128, 3), (24, .aload_n 0, 1), (25, .aload_n 0, 1), (26, .aload_n 0, 1), (27, .getfield 131, 3), (30, .invokevirtual 514, 3), (33, .putfield 131, 3), (36, .aload_n 0, 1), (37, .aload_n 0, 1), (38, .aload_n 0, 1), (39, .getfield 309, 3), (42, .invokevirtual 514, 3), (45, .putfield 309, 3), (48, .aload_n 0, 1), (49, .aload_n 0, 1), (50, .aload_n 0, 1), (51, .getfield 312, 3), (54, .invokevirtual 514, 3), (57, .putfield 312, 3), (60, .aload_n 0, 1), (61, .aload_n 0, 1), (62, .aload_n 0, 1), (63, .getfield 306, 3), (66, .invokevirtual 514, 3), (69, .putfield 306, 3), (72, .aload_n 0, 1), (73, .aload_n 0, 1), (74, .aload_n 0, 1), (75, .getfield 474, 3), (78, .invokevirtual 514, 3), (81, .putfield 474, 3), (84, .aload_n 0, 1), (85, .aload_n 0, 1), (86, .aload_n 0, 1), (87, .getfield 484, 3), (90, .invokevirtual 514, 3), (93, .putfield 484, 3), (96, .aload_n 0, 1), (97, .aload_n 0, 1), (98, .aload_n 0, 1), (99, .getfield 499, 3), (102, .invokevirtual 514, 3), (105, .putfield 499, 3), (108, .return_, 1)]
theorem dt_X12_keepsMany : wg_dc cX12_keepsMany tb_X12_keepsMany := by unfold wg_dc; decide +kernel
def f_X12_keepsMany  (x0 : Nat) (σ : wg_M) : Option (Int32 × wg_M) := wg_bd (f_X12_keeps x0 (σ x0 6) σ) (fun v1 s2 => wg_st s2 x0 6 v1 (fun s3 => wg_bd (f_X12_keeps x0 (s3 x0 7) s3) (fun v4 s5 => wg_st s5 x0 7 v4 (fun s6 => wg_bd (f_X12_keeps x0 (s6 x0 8) s6) (fun v7 s8 => wg_st s8 x0 8 v7 (fun s9 => wg_bd (f_X12_keeps x0 (s9 x0 37) s9) (fun v10 s11 => wg_st s11 x0 37 v10 (fun s12 => wg_bd (f_X12_keeps x0 (s12 x0 39) s12) (fun v13 s14 => wg_st s14 x0 39 v13 (fun s15 => wg_bd (f_X12_keeps x0 (s15 x0 41) s15) (fun v16 s17 => wg_st s17 x0 41 v16 (fun s18 => wg_bd (f_X12_keeps x0 (s18 x0 45) s18) (fun v19 s20 => wg_st s20 x0 45 v19 (fun s21 => wg_bd (f_X12_keeps x0 (s21 x0 49) s21) (fun v22 s23 => wg_st s23 x0 49 v22 (fun s24 => wg_bd (f_X12_keeps x0 (s24 x0 53) s24) (fun v25 s26 => wg_st s26 x0 53 v25 (fun s27 => some (0, s27)))))))))))))))))))
set_option maxRecDepth 20000 in
theorem g_X12_keepsMany_e (l : Launch) (E : wg_E)  (x0 : Nat) (σ : wg_M) (z : Int32 × wg_M) (hx0 : wg_t Sm x0 = 14) (h : f_X12_keepsMany  x0 σ = some z) : wg_G l E Sm "WornWigsModel" cX12_keepsMany 1 none rm_X12_keepsMany none z.2 0 [some (.ref x0)] [] σ := by
  refine wr_aload_n (wg_da dt_X12_keepsMany 0 rfl) rfl ?_
  refine wr_aload_n (wg_da dt_X12_keepsMany 1 rfl) rfl ?_
  refine wr_aload_n (wg_da dt_X12_keepsMany 2 rfl) rfl ?_
  refine wr_getI wf_X12_125 (wg_da dt_X12_keepsMany 3 rfl) hx0 ?_
  refine wr_callVi [.int (σ x0 6)] [.ref x0] (wg_da dt_X12_keepsMany 4 rfl) ⟨wq_9_154, wq_9_156, wq_p10_9⟩ hx0 ⟨rfl, by decide⟩ wy_X12_keeps (fun q hq => m_X12_keeps l E x0 (σ x0 6) hx0 _ q hq) rfl rfl (Nat.le_of_ble_eq_true rfl) ⟨rfl, rfl, by decide, by decide⟩ h (fun v1 s2 h => ?_)
  refine wr_putI wfp_X12_125 (wg_da dt_X12_keepsMany 5 rfl) hx0 h (fun s3 h => ?_)
  refine wr_aload_n (wg_da dt_X12_keepsMany 6 rfl) rfl ?_
  refine wr_aload_n (wg_da dt_X12_keepsMany 7 rfl) rfl ?_
  refine wr_aload_n (wg_da dt_X12_keepsMany 8 rfl) rfl ?_
  refine wr_getI wf_X12_128 (wg_da dt_X12_keepsMany 9 rfl) hx0 ?_
  refine wr_callVi [.int (s3 x0 7)] [.ref x0] (wg_da dt_X12_keepsMany 10 rfl) ⟨wq_9_154, wq_9_156, wq_p10_9⟩ hx0 ⟨rfl, by decide⟩ wy_X12_keeps (fun q hq => m_X12_keeps l E x0 (s3 x0 7) hx0 _ q hq) rfl rfl (Nat.le_of_ble_eq_true rfl) ⟨rfl, rfl, by decide, by decide⟩ h (fun v4 s5 h => ?_)
  refine wr_putI wfp_X12_128 (wg_da dt_X12_keepsMany 11 rfl) hx0 h (fun s6 h => ?_)
  refine wr_aload_n (wg_da dt_X12_keepsMany 12 rfl) rfl ?_
  refine wr_aload_n (wg_da dt_X12_keepsMany 13 rfl) rfl ?_
  refine wr_aload_n (wg_da dt_X12_keepsMany 14 rfl) rfl ?_
  refine wr_getI wf_X12_131 (wg_da dt_X12_keepsMany 15 rfl) hx0 ?_
  refine wr_callVi [.int (s6 x0 8)] [.ref x0] (wg_da dt_X12_keepsMany 16 rfl) ⟨wq_9_154, wq_9_156, wq_p10_9⟩ hx0 ⟨rfl, by decide⟩ wy_X12_keeps (fun q hq => m_X12_keeps l E x0 (s6 x0 8) hx0 _ q hq) rfl rfl (Nat.le_of_ble_eq_true rfl) ⟨rfl, rfl, by decide, by decide⟩ h (fun v7 s8 h => ?_)
  refine wr_putI wfp_X12_131 (wg_da dt_X12_keepsMany 17 rfl) hx0 h (fun s9 h => ?_)
  refine wr_aload_n (wg_da dt_X12_keepsMany 18 rfl) rfl ?_
  refine wr_aload_n (wg_da dt_X12_keepsMany 19 rfl) rfl ?_
  refine wr_aload_n (wg_da dt_X12_keepsMany 20 rfl) rfl ?_
  refine wr_getI wf_X12_309 (wg_da dt_X12_keepsMany 21 rfl) hx0 ?_
  refine wr_callVi [.int (s9 x0 37)] [.ref x0] (wg_da dt_X12_keepsMany 22 rfl) ⟨wq_9_154, wq_9_156, wq_p10_9⟩ hx0 ⟨rfl, by decide⟩ wy_X12_keeps (fun q hq => m_X12_keeps l E x0 (s9 x0 37) hx0 _ q hq) rfl rfl (Nat.le_of_ble_eq_true rfl) ⟨rfl, rfl, by decide, by decide⟩ h (fun v10 s11 h => ?_)
  refine wr_putI wfp_X12_309 (wg_da dt_X12_keepsMany 23 rfl) hx0 h (fun s12 h => ?_)
  refine wr_aload_n (wg_da dt_X12_keepsMany 24 rfl) rfl ?_
  refine wr_aload_n (wg_da dt_X12_keepsMany 25 rfl) rfl ?_
  refine wr_aload_n (wg_da dt_X12_keepsMany 26 rfl) rfl ?_
  refine wr_getI wf_X12_312 (wg_da dt_X12_keepsMany 27 rfl) hx0 ?_
  refine wr_callVi [.int (s12 x0 39)] [.ref x0] (wg_da dt_X12_keepsMany 28 rfl) ⟨wq_9_154, wq_9_156, wq_p10_9⟩ hx0 ⟨rfl, by decide⟩ wy_X12_keeps (fun q hq => m_X12_keeps l E x0 (s12 x0 39) hx0 _ q hq) rfl rfl (Nat.le_of_ble_eq_true rfl) ⟨rfl, rfl, by decide, by decide⟩ h (fun v13 s14 h => ?_)
  refine wr_putI wfp_X12_312 (wg_da dt_X12_keepsMany 29 rfl) hx0 h (fun s15 h => ?_)
  refine wr_aload_n (wg_da dt_X12_keepsMany 30 rfl) rfl ?_
  refine wr_aload_n (wg_da dt_X12_keepsMany 31 rfl) rfl ?_
  refine wr_aload_n (wg_da dt_X12_keepsMany 32 rfl) rfl ?_
  refine wr_getI wf_X12_306 (wg_da dt_X12_keepsMany 33 rfl) hx0 ?_
  refine wr_callVi [.int (s15 x0 41)] [.ref x0] (wg_da dt_X12_keepsMany 34 rfl) ⟨wq_9_154, wq_9_156, wq_p10_9⟩ hx0 ⟨rfl, by decide⟩ wy_X12_keeps (fun q hq => m_X12_keeps l E x0 (s15 x0 41) hx0 _ q hq) rfl rfl (Nat.le_of_ble_eq_true rfl) ⟨rfl, rfl, by decide, by decide⟩ h (fun v16 s17 h => ?_)
  refine wr_putI wfp_X12_306 (wg_da dt_X12_keepsMany 35 rfl) hx0 h (fun s18 h => ?_)
  refine wr_aload_n (wg_da dt_X12_keepsMany 36 rfl) rfl ?_
  refine wr_aload_n (wg_da dt_X12_keepsMany 37 rfl) rfl ?_
  refine wr_aload_n (wg_da dt_X12_keepsMany 38 rfl) rfl ?_
  refine wr_getI wf_X12_474 (wg_da dt_X12_keepsMany 39 rfl) hx0 ?_
  refine wr_callVi [.int (s18 x0 45)] [.ref x0] (wg_da dt_X12_keepsMany 40 rfl) ⟨wq_9_154, wq_9_156, wq_p10_9⟩ hx0 ⟨rfl, by decide⟩ wy_X12_keeps (fun q hq => m_X12_keeps l E x0 (s18 x0 45) hx0 _ q hq) rfl rfl (Nat.le_of_ble_eq_true rfl) ⟨rfl, rfl, by decide, by decide⟩ h (fun v19 s20 h => ?_)
  refine wr_putI wfp_X12_474 (wg_da dt_X12_keepsMany 41 rfl) hx0 h (fun s21 h => ?_)
  refine wr_aload_n (wg_da dt_X12_keepsMany 42 rfl) rfl ?_
  refine wr_aload_n (wg_da dt_X12_keepsMany 43 rfl) rfl ?_
  refine wr_aload_n (wg_da dt_X12_keepsMany 44 rfl) rfl ?_
  refine wr_getI wf_X12_484 (wg_da dt_X12_keepsMany 45 rfl) hx0 ?_
  refine wr_callVi [.int (s21 x0 49)] [.ref x0] (wg_da dt_X12_keepsMany 46 rfl) ⟨wq_9_154, wq_9_156, wq_p10_9⟩ hx0 ⟨rfl, by decide⟩ wy_X12_keeps (fun q hq => m_X12_keeps l E x0 (s21 x0 49) hx0 _ q hq) rfl rfl (Nat.le_of_ble_eq_true rfl) ⟨rfl, rfl, by decide, by decide⟩ h (fun v22 s23 h => ?_)
  refine wr_putI wfp_X12_484 (wg_da dt_X12_keepsMany 47 rfl) hx0 h (fun s24 h => ?_)
  refine wr_aload_n (wg_da dt_X12_keepsMany 48 rfl) rfl ?_
  refine wr_aload_n (wg_da dt_X12_keepsMany 49 rfl) rfl ?_
  refine wr_aload_n (wg_da dt_X12_keepsMany 50 rfl) rfl ?_
  refine wr_getI wf_X12_499 (wg_da dt_X12_keepsMany 51 rfl) hx0 ?_
  refine wr_callVi [.int (s24 x0 53)] [.ref x0] (wg_da dt_X12_keepsMany 52 rfl) ⟨wq_9_154, wq_9_156, wq_p10_9⟩ hx0 ⟨rfl, by decide⟩ wy_X12_keeps (fun q hq => m_X12_keeps l E x0 (s24 x0 53) hx0 _ q hq) rfl rfl (Nat.le_of_ble_eq_true rfl) ⟨rfl, rfl, by decide, by decide⟩ h (fun v25 s26 h => ?_)
  refine wr_putI wfp_X12_499 (wg_da dt_X12_keepsMany 53 rfl) hx0 h (fun s27 h => ?_)
  exact wr_vret (wg_da dt_X12_keepsMany 54 rfl) h
theorem m_X12_keepsMany (l : Launch) (E : wg_E) (x0 : Nat) (hx0 : wg_t Sm x0 = 14) (σ : wg_M) (q : Int32 × wg_M) (h : f_X12_keepsMany x0 σ = some q) : wg_MG l E Sm yX12_keepsMany cX12_keepsMany 1 none rm_X12_keepsMany [.ref x0] σ none q.2 :=
  wg_met [.ref x0] (plainFor_of_name (by decide)) (Nat.le_of_ble_eq_true rfl) (g_X12_keepsMany_e l E x0 σ q hx0 h)
abbrev rm_X12_keepsTold : Room := { frames := 1, cells := 0, slots := 0, locals := 21 }
def tb_X12_keepsTold : List (Nat × Instr × Nat) := [(0, .iconst 0, 1), (1, .istore_n 1, 1), (2, .iload_n 1, 1), (3, .bipush 8, 2), (5, .if_icmp .ge 89, 3), (8, .aload_n 0, 1), (9, .getfield 19, 3), (12, .iload_n 1, 1), (13, .aload_n 0, 1), (14, .aload_n 0, 1), (15, .getfield 19, 3), (18, .iload_n 1, 1), (19, .iaload, 1), (20, .invokevirtual 514, 3), (23, .iastore, 1), (24, .aload_n 0, 1), (25, .getfield 74, 3), (28, .iload_n 1, 1), (29, .aload_n 0, 1), (30, .aload_n 0, 1), (31, .getfield 74, 3), (34, .iload_n 1, 1), (35, .iaload, 1), (36, .invokevirtual 514, 3), (39, .iastore, 1), (40, .aload_n 0, 1), (41, .getfield 83, 3), (44, .iload_n 1, 1), (45, .aload_n 0, 1), (46, .aload_n 0, 1), (47, .getfield 83, 3), (50, .iload_n 1, 1), (51, .iaload, 1), (52, .invokevirtual 514, 3), (55, .iastore, 1), (56, .aload_n 0, 1), (57, .getfield 86, 3), (60, .iload_n 1, 1), (61, .aload_n 0, 1), (62, .aload_n 0, 1), (63, .getfield 86, 3), (66, .iload_n 1, 1), (67, .iaload, 1), (68, .invokevirtual 514, 3), (71, .iastore, 1), (72, .aload_n 0, 1), (73, .getfield 89, 3), (76, .iload_n 1, 1), (77, .aload_n 0, 1), (78, .aload_n 0, 1), (79, .getfield 89, 3), (82, .iload_n 1, 1), (83, .iaload, 1), (84, .invokevirtual 514, 3), (87, .iastore, 1), (88, .iinc 1 1, 3), (91, .goto (-89), 3), (94, .iconst 0, 1), (95, .istore_n 1, 1), (96, .iload_n 1, 1), (97, .bipush 10, 2), (99, .if_icmp .ge 25, 3), (102, .aload_n 0, 1), (103, .getfield 22, 3), (106, .iload_n 1, 1), (107, .aload_n 0, 1), (108, .aload_n 0, 1), (109, .getfield 22, 3), (112, .iload_n 1, 1), (113, .iaload, 1), (114, .invokevirtual 514, 3), (117, .iastore, 1), (118, .iinc 1 1, 3), (121, .goto (-25), 3), (124, .iconst 0, 1), (125, .istore_n 1, 1), (126, .iload_n 1, 1), (127, .bipush 14, 2), (129, .if_icmp .ge 57, 3), (132, .aload_n 0, 1), (133, .getfield 25, 3), (136, .iload_n 1, 1), (137, .aload_n 0, 1), (138, .aload_n 0, 1), (139, .getfield 25, 3), (142, .iload_n 1, 1), (143, .iaload, 1), (144, .invokevirtual 514, 3), (147, .iastore, 1), (148, .aload_n 0, 1), (149, .getfield 28, 3), (152, .iload_n 1, 1), (153, .aload_n 0, 1), (154, .aload_n 0, 1), (155, .getfield 28, 3), (158, .iload_n 1, 1), (159, .iaload, 1), (160, .invokevirtual 514, 3), (163, .iastore, 1), (164, .aload_n 0, 1), (165, .getfield 92, 3), (168, .iload_n 1, 1), (169, .aload_n 0, 1), (170, .aload_n 0, 1), (171, .getfield 92, 3), (174, .iload_n 1, 1), (175, .iaload, 1), (176, .invokevirtual 514, 3), (179, .iastore, 1), (180, .iinc 1 1, 3), (183, .goto (-57), 3), (186, .iconst 0, 1), (187, .istore_n 1, 1), (188, .iload_n 1, 1), (189, .bipush 20, 2), (191, .if_icmp .ge 25, 3), (194, .aload_n 0, 1), (195, .getfield 98, 3), (198, .iload_n 1, 1), (199, .aload_n 0, 1), (200, .aload_n 0, 1), (201, .getfield 98, 3), (204, .iload_n 1, 1), (205, .iaload, 1), (206, .invokevirtual 514, 3), (209, .iastore, 1), (210, .iinc 1 1, 3), (213, .goto (-25), 3), (216, .iconst 0, 1), (217, .istore_n 1, 1), (218, .iload_n 1, 1), (219, .bipush 7, 2), (221, .if_icmp .ge 41, 3), (224, .aload_n 0, 1), (225, .getfield 101, 3), (228, .iload_n 1, 1), (229, .aload_n 0, 1), (230, .aload_n 0, 1), (231, .getfield 101, 3), (234, .iload_n 1, 1), (235, .iaload, 1), (236, .invokevirtual 514, 3), (239, .iastore, 1), (240, .aload_n 0, 1), (241, .getfield 104, 3), (244, .iload_n 1, 1), (245, .aload_n 0, 1), (246, .aload_n 0, 1), (247, .getfield 104, 3), (250, .iload_n 1, 1), (251, .iaload, 1), (252, .invokevirtual 514, 3), (255, .iastore, 1), (256, .iinc 1 1, 3), (259, .goto (-41), 3), (262, .iconst 0, 1), (263, .istore_n 1, 1), (264, .iload_n 1, 1), (265, .bipush 48, 2), (267, .if_icmp .ge 25, 3), (270, .aload_n 0, 1), (271, .getfield 68, 3), (274, .iload_n 1, 1), (275, .aload_n 0, 1), (276, .aload_n 0, 1), (277, .getfield 68, 3), (280, .iload_n 1, 1), (281, .iaload, 1), (282, .invokevirtual 514, 3), (285, .iastore, 1), (286, .iinc 1 1, 3), (289, .goto (-25), 3), (292, .iconst 0, 1), (293, .istore_n 1, 1), (294, .iload_n 1, 1), (295, .bipush 64, 2), (297, .if_icmp .ge 25, 3), (300, .aload_n 0, 1), (301, .getfield 71, 3), (304, .iload_n 1, 1), (305, .aload_n 0, 1), (306, .aload_n 0, 1), (307, .getfield 71, 3), (310, .iload_n 1, 1), (311, .iaload, 1), (312, .invokevirtual 514, 3), (315, .iastore, 1), (316, .iinc 1 1, 3), (319, .goto (-25), 3), (322, .return_, 1)]
theorem dt_X12_keepsTold : wg_dc cX12_keepsTold tb_X12_keepsTold := by unfold wg_dc; decide +kernel
def f_X12_keepsTold_294  : Nat → Nat → Int32 → wg_M → Option (Int32 × wg_M)
  | 0, _, _, _ => none
  | n + 1, x0, x1, σ => if (64 : Int32) ≤ x1 then (some (0, σ)) else (wg_ga (wg_n Sm (wg_r Sm x0 40)) (σ (wg_r Sm x0 40)) x1 (fun v1 => wg_bd (f_X12_keeps x0 v1 σ) (fun v2 s3 => wg_sa (wg_n Sm (wg_r Sm x0 40)) s3 (wg_r Sm x0 40) x1 v2 (fun s4 => wg_let (x1 + (1 : Int32)) (fun v5 => f_X12_keepsTold_294  n x0 v5 s4)))))
def f_X12_keepsTold_264  : Nat → Nat → Int32 → wg_M → Option (Int32 × wg_M)
  | 0, _, _, _ => none
  | n + 1, x0, x1, σ => if (48 : Int32) ≤ x1 then (f_X12_keepsTold_294  wg_N x0 (0 : Int32) σ) else (wg_ga (wg_n Sm (wg_r Sm x0 38)) (σ (wg_r Sm x0 38)) x1 (fun v1 => wg_bd (f_X12_keeps x0 v1 σ) (fun v2 s3 => wg_sa (wg_n Sm (wg_r Sm x0 38)) s3 (wg_r Sm x0 38) x1 v2 (fun s4 => wg_let (x1 + (1 : Int32)) (fun v5 => f_X12_keepsTold_264  n x0 v5 s4)))))
def f_X12_keepsTold_218  : Nat → Nat → Int32 → wg_M → Option (Int32 × wg_M)
  | 0, _, _, _ => none
  | n + 1, x0, x1, σ => if (7 : Int32) ≤ x1 then (f_X12_keepsTold_264  wg_N x0 (0 : Int32) σ) else (wg_ga (wg_n Sm (wg_r Sm x0 54)) (σ (wg_r Sm x0 54)) x1 (fun v1 => wg_bd (f_X12_keeps x0 v1 σ) (fun v2 s3 => wg_sa (wg_n Sm (wg_r Sm x0 54)) s3 (wg_r Sm x0 54) x1 v2 (fun s4 => wg_ga (wg_n Sm (wg_r Sm x0 55)) (s4 (wg_r Sm x0 55)) x1 (fun v5 => wg_bd (f_X12_keeps x0 v5 s4) (fun v6 s7 => wg_sa (wg_n Sm (wg_r Sm x0 55)) s7 (wg_r Sm x0 55) x1 v6 (fun s8 => wg_let (x1 + (1 : Int32)) (fun v9 => f_X12_keepsTold_218  n x0 v9 s8))))))))
def f_X12_keepsTold_188  : Nat → Nat → Int32 → wg_M → Option (Int32 × wg_M)
  | 0, _, _, _ => none
  | n + 1, x0, x1, σ => if (20 : Int32) ≤ x1 then (f_X12_keepsTold_218  wg_N x0 (0 : Int32) σ) else (wg_ga (wg_n Sm (wg_r Sm x0 52)) (σ (wg_r Sm x0 52)) x1 (fun v1 => wg_bd (f_X12_keeps x0 v1 σ) (fun v2 s3 => wg_sa (wg_n Sm (wg_r Sm x0 52)) s3 (wg_r Sm x0 52) x1 v2 (fun s4 => wg_let (x1 + (1 : Int32)) (fun v5 => f_X12_keepsTold_188  n x0 v5 s4)))))
def f_X12_keepsTold_126  : Nat → Nat → Int32 → wg_M → Option (Int32 × wg_M)
  | 0, _, _, _ => none
  | n + 1, x0, x1, σ => if (14 : Int32) ≤ x1 then (f_X12_keepsTold_188  wg_N x0 (0 : Int32) σ) else (wg_ga (wg_n Sm (wg_r Sm x0 11)) (σ (wg_r Sm x0 11)) x1 (fun v1 => wg_bd (f_X12_keeps x0 v1 σ) (fun v2 s3 => wg_sa (wg_n Sm (wg_r Sm x0 11)) s3 (wg_r Sm x0 11) x1 v2 (fun s4 => wg_ga (wg_n Sm (wg_r Sm x0 12)) (s4 (wg_r Sm x0 12)) x1 (fun v5 => wg_bd (f_X12_keeps x0 v5 s4) (fun v6 s7 => wg_sa (wg_n Sm (wg_r Sm x0 12)) s7 (wg_r Sm x0 12) x1 v6 (fun s8 => wg_ga (wg_n Sm (wg_r Sm x0 50)) (s8 (wg_r Sm x0 50)) x1 (fun v9 => wg_bd (f_X12_keeps x0 v9 s8) (fun v10 s11 => wg_sa (wg_n Sm (wg_r Sm x0 50)) s11 (wg_r Sm x0 50) x1 v10 (fun s12 => wg_let (x1 + (1 : Int32)) (fun v13 => f_X12_keepsTold_126  n x0 v13 s12)))))))))))
def f_X12_keepsTold_96  : Nat → Nat → Int32 → wg_M → Option (Int32 × wg_M)
  | 0, _, _, _ => none
  | n + 1, x0, x1, σ => if (10 : Int32) ≤ x1 then (f_X12_keepsTold_126  wg_N x0 (0 : Int32) σ) else (wg_ga (wg_n Sm (wg_r Sm x0 10)) (σ (wg_r Sm x0 10)) x1 (fun v1 => wg_bd (f_X12_keeps x0 v1 σ) (fun v2 s3 => wg_sa (wg_n Sm (wg_r Sm x0 10)) s3 (wg_r Sm x0 10) x1 v2 (fun s4 => wg_let (x1 + (1 : Int32)) (fun v5 => f_X12_keepsTold_96  n x0 v5 s4)))))
def f_X12_keepsTold_2  : Nat → Nat → Int32 → wg_M → Option (Int32 × wg_M)
  | 0, _, _, _ => none
  | n + 1, x0, x1, σ => if (8 : Int32) ≤ x1 then (f_X12_keepsTold_96  wg_N x0 (0 : Int32) σ) else (wg_ga (wg_n Sm (wg_r Sm x0 9)) (σ (wg_r Sm x0 9)) x1 (fun v1 => wg_bd (f_X12_keeps x0 v1 σ) (fun v2 s3 => wg_sa (wg_n Sm (wg_r Sm x0 9)) s3 (wg_r Sm x0 9) x1 v2 (fun s4 => wg_ga (wg_n Sm (wg_r Sm x0 42)) (s4 (wg_r Sm x0 42)) x1 (fun v5 => wg_bd (f_X12_keeps x0 v5 s4) (fun v6 s7 => wg_sa (wg_n Sm (wg_r Sm x0 42)) s7 (wg_r Sm x0 42) x1 v6 (fun s8 => wg_ga (wg_n Sm (wg_r Sm x0 46)) (s8 (wg_r Sm x0 46)) x1 (fun v9 => wg_bd (f_X12_keeps x0 v9 s8) (fun v10 s11 => wg_sa (wg_n Sm (wg_r Sm x0 46)) s11 (wg_r Sm x0 46) x1 v10 (fun s12 => wg_ga (wg_n Sm (wg_r Sm x0 47)) (s12 (wg_r Sm x0 47)) x1 (fun v13 => wg_bd (f_X12_keeps x0 v13 s12) (fun v14 s15 => wg_sa (wg_n Sm (wg_r Sm x0 47)) s15 (wg_r Sm x0 47) x1 v14 (fun s16 => wg_ga (wg_n Sm (wg_r Sm x0 48)) (s16 (wg_r Sm x0 48)) x1 (fun v17 => wg_bd (f_X12_keeps x0 v17 s16) (fun v18 s19 => wg_sa (wg_n Sm (wg_r Sm x0 48)) s19 (wg_r Sm x0 48) x1 v18 (fun s20 => wg_let (x1 + (1 : Int32)) (fun v21 => f_X12_keepsTold_2  n x0 v21 s20)))))))))))))))))
def f_X12_keepsTold  (x0 : Nat) (σ : wg_M) : Option (Int32 × wg_M) := f_X12_keepsTold_2  wg_N x0 (0 : Int32) σ
set_option maxRecDepth 20000 in
theorem g_X12_keepsTold_294 (l : Launch) (E : wg_E)  (z : Int32 × wg_M) : ∀ (n : Nat) (x0 : Nat) (x1 : Int32) (σ : wg_M) (hx0 : wg_t Sm x0 = 14) (h : f_X12_keepsTold_294  n x0 x1 σ = some z), wg_G l E Sm "WornWigsModel" cX12_keepsTold 2 none rm_X12_keepsTold none z.2 294 [some (.ref x0), some (.int x1)] [] σ := by
  intro n
  induction n with
  | zero => intro x0 x1 σ hx0 h; cases h
  | succ n ih =>
    intro x0 x1 σ hx0 h
    refine wr_iload_n (wg_da dt_X12_keepsTold 174 rfl) rfl ?_
    refine wr_bipush (64 : Int32) (wg_da dt_X12_keepsTold 175 rfl) (by decide) ?_
    refine wr_icmp_ge 322 (wg_da dt_X12_keepsTold 176 rfl) (by decide) h (fun h => ?_) (fun h => ?_)
    · exact wr_vret (wg_da dt_X12_keepsTold 189 rfl) h
    · refine wr_aload_n (wg_da dt_X12_keepsTold 177 rfl) rfl ?_
      refine wr_getR wf_X12_71 (wg_da dt_X12_keepsTold 178 rfl) hx0 ?_
      refine wr_iload_n (wg_da dt_X12_keepsTold 179 rfl) rfl ?_
      refine wr_aload_n (wg_da dt_X12_keepsTold 180 rfl) rfl ?_
      refine wr_aload_n (wg_da dt_X12_keepsTold 181 rfl) rfl ?_
      refine wr_getR wf_X12_71 (wg_da dt_X12_keepsTold 182 rfl) hx0 ?_
      refine wr_iload_n (wg_da dt_X12_keepsTold 183 rfl) rfl ?_
      refine wr_iald (wg_da dt_X12_keepsTold 184 rfl) (wg_ty Sm_ok 12 40 0 hx0 rfl (by decide)).2 h (fun v1 h => ?_)
      refine wr_callVi [.int v1] [.int x1, .ref (wg_r Sm x0 40)] (wg_da dt_X12_keepsTold 185 rfl) ⟨wq_9_154, wq_9_156, wq_p10_9⟩ hx0 ⟨rfl, by decide⟩ wy_X12_keeps (fun q hq => m_X12_keeps l E x0 v1 hx0 _ q hq) rfl rfl (Nat.le_of_ble_eq_true rfl) ⟨rfl, rfl, by decide, by decide⟩ h (fun v2 s3 h => ?_)
      refine wr_iast (wg_da dt_X12_keepsTold 186 rfl) (wg_ty Sm_ok 12 40 0 hx0 rfl (by decide)).2 h (fun s4 h => ?_)
      refine wr_iinc (c0 := (1 : Int32)) (wg_da dt_X12_keepsTold 187 rfl) rfl (by decide) (by decide) h (fun v5 h => ?_)
      refine wr_goto 294 (wg_da dt_X12_keepsTold 188 rfl) (by decide) ?_
      exact wr_wk [true, true] (ih x0 v5 s4 hx0 h)
set_option maxRecDepth 20000 in
theorem g_X12_keepsTold_264 (l : Launch) (E : wg_E)  (z : Int32 × wg_M) : ∀ (n : Nat) (x0 : Nat) (x1 : Int32) (σ : wg_M) (hx0 : wg_t Sm x0 = 14) (h : f_X12_keepsTold_264  n x0 x1 σ = some z), wg_G l E Sm "WornWigsModel" cX12_keepsTold 2 none rm_X12_keepsTold none z.2 264 [some (.ref x0), some (.int x1)] [] σ := by
  intro n
  induction n with
  | zero => intro x0 x1 σ hx0 h; cases h
  | succ n ih =>
    intro x0 x1 σ hx0 h
    refine wr_iload_n (wg_da dt_X12_keepsTold 157 rfl) rfl ?_
    refine wr_bipush (48 : Int32) (wg_da dt_X12_keepsTold 158 rfl) (by decide) ?_
    refine wr_icmp_ge 292 (wg_da dt_X12_keepsTold 159 rfl) (by decide) h (fun h => ?_) (fun h => ?_)
    · refine wr_iconst (0 : Int32) (wg_da dt_X12_keepsTold 172 rfl) (by decide) ?_
      refine wr_istore_n (wg_da dt_X12_keepsTold 173 rfl) (by decide) ?_
      exact wr_wk [true, true] (g_X12_keepsTold_294 l E  _  wg_N x0 (0 : Int32) σ hx0 h)
    · refine wr_aload_n (wg_da dt_X12_keepsTold 160 rfl) rfl ?_
      refine wr_getR wf_X12_68 (wg_da dt_X12_keepsTold 161 rfl) hx0 ?_
      refine wr_iload_n (wg_da dt_X12_keepsTold 162 rfl) rfl ?_
      refine wr_aload_n (wg_da dt_X12_keepsTold 163 rfl) rfl ?_
      refine wr_aload_n (wg_da dt_X12_keepsTold 164 rfl) rfl ?_
      refine wr_getR wf_X12_68 (wg_da dt_X12_keepsTold 165 rfl) hx0 ?_
      refine wr_iload_n (wg_da dt_X12_keepsTold 166 rfl) rfl ?_
      refine wr_iald (wg_da dt_X12_keepsTold 167 rfl) (wg_ty Sm_ok 12 38 0 hx0 rfl (by decide)).2 h (fun v1 h => ?_)
      refine wr_callVi [.int v1] [.int x1, .ref (wg_r Sm x0 38)] (wg_da dt_X12_keepsTold 168 rfl) ⟨wq_9_154, wq_9_156, wq_p10_9⟩ hx0 ⟨rfl, by decide⟩ wy_X12_keeps (fun q hq => m_X12_keeps l E x0 v1 hx0 _ q hq) rfl rfl (Nat.le_of_ble_eq_true rfl) ⟨rfl, rfl, by decide, by decide⟩ h (fun v2 s3 h => ?_)
      refine wr_iast (wg_da dt_X12_keepsTold 169 rfl) (wg_ty Sm_ok 12 38 0 hx0 rfl (by decide)).2 h (fun s4 h => ?_)
      refine wr_iinc (c0 := (1 : Int32)) (wg_da dt_X12_keepsTold 170 rfl) rfl (by decide) (by decide) h (fun v5 h => ?_)
      refine wr_goto 264 (wg_da dt_X12_keepsTold 171 rfl) (by decide) ?_
      exact wr_wk [true, true] (ih x0 v5 s4 hx0 h)
set_option maxRecDepth 20000 in
theorem g_X12_keepsTold_218 (l : Launch) (E : wg_E)  (z : Int32 × wg_M) : ∀ (n : Nat) (x0 : Nat) (x1 : Int32) (σ : wg_M) (hx0 : wg_t Sm x0 = 14) (h : f_X12_keepsTold_218  n x0 x1 σ = some z), wg_G l E Sm "WornWigsModel" cX12_keepsTold 2 none rm_X12_keepsTold none z.2 218 [some (.ref x0), some (.int x1)] [] σ := by
  intro n
  induction n with
  | zero => intro x0 x1 σ hx0 h; cases h
  | succ n ih =>
    intro x0 x1 σ hx0 h
    refine wr_iload_n (wg_da dt_X12_keepsTold 130 rfl) rfl ?_
    refine wr_bipush (7 : Int32) (wg_da dt_X12_keepsTold 131 rfl) (by decide) ?_
    refine wr_icmp_ge 262 (wg_da dt_X12_keepsTold 132 rfl) (by decide) h (fun h => ?_) (fun h => ?_)
    · refine wr_iconst (0 : Int32) (wg_da dt_X12_keepsTold 155 rfl) (by decide) ?_
      refine wr_istore_n (wg_da dt_X12_keepsTold 156 rfl) (by decide) ?_
      exact wr_wk [true, true] (g_X12_keepsTold_264 l E  _  wg_N x0 (0 : Int32) σ hx0 h)
    · refine wr_aload_n (wg_da dt_X12_keepsTold 133 rfl) rfl ?_
      refine wr_getR wf_X12_101 (wg_da dt_X12_keepsTold 134 rfl) hx0 ?_
      refine wr_iload_n (wg_da dt_X12_keepsTold 135 rfl) rfl ?_
      refine wr_aload_n (wg_da dt_X12_keepsTold 136 rfl) rfl ?_
      refine wr_aload_n (wg_da dt_X12_keepsTold 137 rfl) rfl ?_
      refine wr_getR wf_X12_101 (wg_da dt_X12_keepsTold 138 rfl) hx0 ?_
      refine wr_iload_n (wg_da dt_X12_keepsTold 139 rfl) rfl ?_
      refine wr_iald (wg_da dt_X12_keepsTold 140 rfl) (wg_ty Sm_ok 12 54 0 hx0 rfl (by decide)).2 h (fun v1 h => ?_)
      refine wr_callVi [.int v1] [.int x1, .ref (wg_r Sm x0 54)] (wg_da dt_X12_keepsTold 141 rfl) ⟨wq_9_154, wq_9_156, wq_p10_9⟩ hx0 ⟨rfl, by decide⟩ wy_X12_keeps (fun q hq => m_X12_keeps l E x0 v1 hx0 _ q hq) rfl rfl (Nat.le_of_ble_eq_true rfl) ⟨rfl, rfl, by decide, by decide⟩ h (fun v2 s3 h => ?_)
      refine wr_iast (wg_da dt_X12_keepsTold 142 rfl) (wg_ty Sm_ok 12 54 0 hx0 rfl (by decide)).2 h (fun s4 h => ?_)
      refine wr_aload_n (wg_da dt_X12_keepsTold 143 rfl) rfl ?_
      refine wr_getR wf_X12_104 (wg_da dt_X12_keepsTold 144 rfl) hx0 ?_
      refine wr_iload_n (wg_da dt_X12_keepsTold 145 rfl) rfl ?_
      refine wr_aload_n (wg_da dt_X12_keepsTold 146 rfl) rfl ?_
      refine wr_aload_n (wg_da dt_X12_keepsTold 147 rfl) rfl ?_
      refine wr_getR wf_X12_104 (wg_da dt_X12_keepsTold 148 rfl) hx0 ?_
      refine wr_iload_n (wg_da dt_X12_keepsTold 149 rfl) rfl ?_
      refine wr_iald (wg_da dt_X12_keepsTold 150 rfl) (wg_ty Sm_ok 12 55 0 hx0 rfl (by decide)).2 h (fun v5 h => ?_)
      refine wr_callVi [.int v5] [.int x1, .ref (wg_r Sm x0 55)] (wg_da dt_X12_keepsTold 151 rfl) ⟨wq_9_154, wq_9_156, wq_p10_9⟩ hx0 ⟨rfl, by decide⟩ wy_X12_keeps (fun q hq => m_X12_keeps l E x0 v5 hx0 _ q hq) rfl rfl (Nat.le_of_ble_eq_true rfl) ⟨rfl, rfl, by decide, by decide⟩ h (fun v6 s7 h => ?_)
      refine wr_iast (wg_da dt_X12_keepsTold 152 rfl) (wg_ty Sm_ok 12 55 0 hx0 rfl (by decide)).2 h (fun s8 h => ?_)
      refine wr_iinc (c0 := (1 : Int32)) (wg_da dt_X12_keepsTold 153 rfl) rfl (by decide) (by decide) h (fun v9 h => ?_)
      refine wr_goto 218 (wg_da dt_X12_keepsTold 154 rfl) (by decide) ?_
      exact wr_wk [true, true] (ih x0 v9 s8 hx0 h)
set_option maxRecDepth 20000 in
theorem g_X12_keepsTold_188 (l : Launch) (E : wg_E)  (z : Int32 × wg_M) : ∀ (n : Nat) (x0 : Nat) (x1 : Int32) (σ : wg_M) (hx0 : wg_t Sm x0 = 14) (h : f_X12_keepsTold_188  n x0 x1 σ = some z), wg_G l E Sm "WornWigsModel" cX12_keepsTold 2 none rm_X12_keepsTold none z.2 188 [some (.ref x0), some (.int x1)] [] σ := by
  intro n
  induction n with
  | zero => intro x0 x1 σ hx0 h; cases h
  | succ n ih =>
    intro x0 x1 σ hx0 h
    refine wr_iload_n (wg_da dt_X12_keepsTold 113 rfl) rfl ?_
    refine wr_bipush (20 : Int32) (wg_da dt_X12_keepsTold 114 rfl) (by decide) ?_
    refine wr_icmp_ge 216 (wg_da dt_X12_keepsTold 115 rfl) (by decide) h (fun h => ?_) (fun h => ?_)
    · refine wr_iconst (0 : Int32) (wg_da dt_X12_keepsTold 128 rfl) (by decide) ?_
      refine wr_istore_n (wg_da dt_X12_keepsTold 129 rfl) (by decide) ?_
      exact wr_wk [true, true] (g_X12_keepsTold_218 l E  _  wg_N x0 (0 : Int32) σ hx0 h)
    · refine wr_aload_n (wg_da dt_X12_keepsTold 116 rfl) rfl ?_
      refine wr_getR wf_X12_98 (wg_da dt_X12_keepsTold 117 rfl) hx0 ?_
      refine wr_iload_n (wg_da dt_X12_keepsTold 118 rfl) rfl ?_
      refine wr_aload_n (wg_da dt_X12_keepsTold 119 rfl) rfl ?_
      refine wr_aload_n (wg_da dt_X12_keepsTold 120 rfl) rfl ?_
      refine wr_getR wf_X12_98 (wg_da dt_X12_keepsTold 121 rfl) hx0 ?_
      refine wr_iload_n (wg_da dt_X12_keepsTold 122 rfl) rfl ?_
      refine wr_iald (wg_da dt_X12_keepsTold 123 rfl) (wg_ty Sm_ok 12 52 0 hx0 rfl (by decide)).2 h (fun v1 h => ?_)
      refine wr_callVi [.int v1] [.int x1, .ref (wg_r Sm x0 52)] (wg_da dt_X12_keepsTold 124 rfl) ⟨wq_9_154, wq_9_156, wq_p10_9⟩ hx0 ⟨rfl, by decide⟩ wy_X12_keeps (fun q hq => m_X12_keeps l E x0 v1 hx0 _ q hq) rfl rfl (Nat.le_of_ble_eq_true rfl) ⟨rfl, rfl, by decide, by decide⟩ h (fun v2 s3 h => ?_)
      refine wr_iast (wg_da dt_X12_keepsTold 125 rfl) (wg_ty Sm_ok 12 52 0 hx0 rfl (by decide)).2 h (fun s4 h => ?_)
      refine wr_iinc (c0 := (1 : Int32)) (wg_da dt_X12_keepsTold 126 rfl) rfl (by decide) (by decide) h (fun v5 h => ?_)
      refine wr_goto 188 (wg_da dt_X12_keepsTold 127 rfl) (by decide) ?_
      exact wr_wk [true, true] (ih x0 v5 s4 hx0 h)
set_option maxRecDepth 20000 in
theorem g_X12_keepsTold_126 (l : Launch) (E : wg_E)  (z : Int32 × wg_M) : ∀ (n : Nat) (x0 : Nat) (x1 : Int32) (σ : wg_M) (hx0 : wg_t Sm x0 = 14) (h : f_X12_keepsTold_126  n x0 x1 σ = some z), wg_G l E Sm "WornWigsModel" cX12_keepsTold 2 none rm_X12_keepsTold none z.2 126 [some (.ref x0), some (.int x1)] [] σ := by
  intro n
  induction n with
  | zero => intro x0 x1 σ hx0 h; cases h
  | succ n ih =>
    intro x0 x1 σ hx0 h
    refine wr_iload_n (wg_da dt_X12_keepsTold 76 rfl) rfl ?_
    refine wr_bipush (14 : Int32) (wg_da dt_X12_keepsTold 77 rfl) (by decide) ?_
    refine wr_icmp_ge 186 (wg_da dt_X12_keepsTold 78 rfl) (by decide) h (fun h => ?_) (fun h => ?_)
    · refine wr_iconst (0 : Int32) (wg_da dt_X12_keepsTold 111 rfl) (by decide) ?_
      refine wr_istore_n (wg_da dt_X12_keepsTold 112 rfl) (by decide) ?_
      exact wr_wk [true, true] (g_X12_keepsTold_188 l E  _  wg_N x0 (0 : Int32) σ hx0 h)
    · refine wr_aload_n (wg_da dt_X12_keepsTold 79 rfl) rfl ?_
      refine wr_getR wf_X12_25 (wg_da dt_X12_keepsTold 80 rfl) hx0 ?_
      refine wr_iload_n (wg_da dt_X12_keepsTold 81 rfl) rfl ?_
      refine wr_aload_n (wg_da dt_X12_keepsTold 82 rfl) rfl ?_
      refine wr_aload_n (wg_da dt_X12_keepsTold 83 rfl) rfl ?_
      refine wr_getR wf_X12_25 (wg_da dt_X12_keepsTold 84 rfl) hx0 ?_
      refine wr_iload_n (wg_da dt_X12_keepsTold 85 rfl) rfl ?_
      refine wr_iald (wg_da dt_X12_keepsTold 86 rfl) (wg_ty Sm_ok 12 11 0 hx0 rfl (by decide)).2 h (fun v1 h => ?_)
      refine wr_callVi [.int v1] [.int x1, .ref (wg_r Sm x0 11)] (wg_da dt_X12_keepsTold 87 rfl) ⟨wq_9_154, wq_9_156, wq_p10_9⟩ hx0 ⟨rfl, by decide⟩ wy_X12_keeps (fun q hq => m_X12_keeps l E x0 v1 hx0 _ q hq) rfl rfl (Nat.le_of_ble_eq_true rfl) ⟨rfl, rfl, by decide, by decide⟩ h (fun v2 s3 h => ?_)
      refine wr_iast (wg_da dt_X12_keepsTold 88 rfl) (wg_ty Sm_ok 12 11 0 hx0 rfl (by decide)).2 h (fun s4 h => ?_)
      refine wr_aload_n (wg_da dt_X12_keepsTold 89 rfl) rfl ?_
      refine wr_getR wf_X12_28 (wg_da dt_X12_keepsTold 90 rfl) hx0 ?_
      refine wr_iload_n (wg_da dt_X12_keepsTold 91 rfl) rfl ?_
      refine wr_aload_n (wg_da dt_X12_keepsTold 92 rfl) rfl ?_
      refine wr_aload_n (wg_da dt_X12_keepsTold 93 rfl) rfl ?_
      refine wr_getR wf_X12_28 (wg_da dt_X12_keepsTold 94 rfl) hx0 ?_
      refine wr_iload_n (wg_da dt_X12_keepsTold 95 rfl) rfl ?_
      refine wr_iald (wg_da dt_X12_keepsTold 96 rfl) (wg_ty Sm_ok 12 12 0 hx0 rfl (by decide)).2 h (fun v5 h => ?_)
      refine wr_callVi [.int v5] [.int x1, .ref (wg_r Sm x0 12)] (wg_da dt_X12_keepsTold 97 rfl) ⟨wq_9_154, wq_9_156, wq_p10_9⟩ hx0 ⟨rfl, by decide⟩ wy_X12_keeps (fun q hq => m_X12_keeps l E x0 v5 hx0 _ q hq) rfl rfl (Nat.le_of_ble_eq_true rfl) ⟨rfl, rfl, by decide, by decide⟩ h (fun v6 s7 h => ?_)
      refine wr_iast (wg_da dt_X12_keepsTold 98 rfl) (wg_ty Sm_ok 12 12 0 hx0 rfl (by decide)).2 h (fun s8 h => ?_)
      refine wr_aload_n (wg_da dt_X12_keepsTold 99 rfl) rfl ?_
      refine wr_getR wf_X12_92 (wg_da dt_X12_keepsTold 100 rfl) hx0 ?_
      refine wr_iload_n (wg_da dt_X12_keepsTold 101 rfl) rfl ?_
      refine wr_aload_n (wg_da dt_X12_keepsTold 102 rfl) rfl ?_
      refine wr_aload_n (wg_da dt_X12_keepsTold 103 rfl) rfl ?_
      refine wr_getR wf_X12_92 (wg_da dt_X12_keepsTold 104 rfl) hx0 ?_
      refine wr_iload_n (wg_da dt_X12_keepsTold 105 rfl) rfl ?_
      refine wr_iald (wg_da dt_X12_keepsTold 106 rfl) (wg_ty Sm_ok 12 50 0 hx0 rfl (by decide)).2 h (fun v9 h => ?_)
      refine wr_callVi [.int v9] [.int x1, .ref (wg_r Sm x0 50)] (wg_da dt_X12_keepsTold 107 rfl) ⟨wq_9_154, wq_9_156, wq_p10_9⟩ hx0 ⟨rfl, by decide⟩ wy_X12_keeps (fun q hq => m_X12_keeps l E x0 v9 hx0 _ q hq) rfl rfl (Nat.le_of_ble_eq_true rfl) ⟨rfl, rfl, by decide, by decide⟩ h (fun v10 s11 h => ?_)
      refine wr_iast (wg_da dt_X12_keepsTold 108 rfl) (wg_ty Sm_ok 12 50 0 hx0 rfl (by decide)).2 h (fun s12 h => ?_)
      refine wr_iinc (c0 := (1 : Int32)) (wg_da dt_X12_keepsTold 109 rfl) rfl (by decide) (by decide) h (fun v13 h => ?_)
      refine wr_goto 126 (wg_da dt_X12_keepsTold 110 rfl) (by decide) ?_
      exact wr_wk [true, true] (ih x0 v13 s12 hx0 h)
set_option maxRecDepth 20000 in
theorem g_X12_keepsTold_96 (l : Launch) (E : wg_E)  (z : Int32 × wg_M) : ∀ (n : Nat) (x0 : Nat) (x1 : Int32) (σ : wg_M) (hx0 : wg_t Sm x0 = 14) (h : f_X12_keepsTold_96  n x0 x1 σ = some z), wg_G l E Sm "WornWigsModel" cX12_keepsTold 2 none rm_X12_keepsTold none z.2 96 [some (.ref x0), some (.int x1)] [] σ := by
  intro n
  induction n with
  | zero => intro x0 x1 σ hx0 h; cases h
  | succ n ih =>
    intro x0 x1 σ hx0 h
    refine wr_iload_n (wg_da dt_X12_keepsTold 59 rfl) rfl ?_
    refine wr_bipush (10 : Int32) (wg_da dt_X12_keepsTold 60 rfl) (by decide) ?_
    refine wr_icmp_ge 124 (wg_da dt_X12_keepsTold 61 rfl) (by decide) h (fun h => ?_) (fun h => ?_)
    · refine wr_iconst (0 : Int32) (wg_da dt_X12_keepsTold 74 rfl) (by decide) ?_
      refine wr_istore_n (wg_da dt_X12_keepsTold 75 rfl) (by decide) ?_
      exact wr_wk [true, true] (g_X12_keepsTold_126 l E  _  wg_N x0 (0 : Int32) σ hx0 h)
    · refine wr_aload_n (wg_da dt_X12_keepsTold 62 rfl) rfl ?_
      refine wr_getR wf_X12_22 (wg_da dt_X12_keepsTold 63 rfl) hx0 ?_
      refine wr_iload_n (wg_da dt_X12_keepsTold 64 rfl) rfl ?_
      refine wr_aload_n (wg_da dt_X12_keepsTold 65 rfl) rfl ?_
      refine wr_aload_n (wg_da dt_X12_keepsTold 66 rfl) rfl ?_
      refine wr_getR wf_X12_22 (wg_da dt_X12_keepsTold 67 rfl) hx0 ?_
      refine wr_iload_n (wg_da dt_X12_keepsTold 68 rfl) rfl ?_
      refine wr_iald (wg_da dt_X12_keepsTold 69 rfl) (wg_ty Sm_ok 12 10 0 hx0 rfl (by decide)).2 h (fun v1 h => ?_)
      refine wr_callVi [.int v1] [.int x1, .ref (wg_r Sm x0 10)] (wg_da dt_X12_keepsTold 70 rfl) ⟨wq_9_154, wq_9_156, wq_p10_9⟩ hx0 ⟨rfl, by decide⟩ wy_X12_keeps (fun q hq => m_X12_keeps l E x0 v1 hx0 _ q hq) rfl rfl (Nat.le_of_ble_eq_true rfl) ⟨rfl, rfl, by decide, by decide⟩ h (fun v2 s3 h => ?_)
      refine wr_iast (wg_da dt_X12_keepsTold 71 rfl) (wg_ty Sm_ok 12 10 0 hx0 rfl (by decide)).2 h (fun s4 h => ?_)
      refine wr_iinc (c0 := (1 : Int32)) (wg_da dt_X12_keepsTold 72 rfl) rfl (by decide) (by decide) h (fun v5 h => ?_)
      refine wr_goto 96 (wg_da dt_X12_keepsTold 73 rfl) (by decide) ?_
      exact wr_wk [true, true] (ih x0 v5 s4 hx0 h)
set_option maxRecDepth 20000 in
theorem g_X12_keepsTold_2 (l : Launch) (E : wg_E)  (z : Int32 × wg_M) : ∀ (n : Nat) (x0 : Nat) (x1 : Int32) (σ : wg_M) (hx0 : wg_t Sm x0 = 14) (h : f_X12_keepsTold_2  n x0 x1 σ = some z), wg_G l E Sm "WornWigsModel" cX12_keepsTold 2 none rm_X12_keepsTold none z.2 2 [some (.ref x0), some (.int x1)] [] σ := by
  intro n
  induction n with
  | zero => intro x0 x1 σ hx0 h; cases h
  | succ n ih =>
    intro x0 x1 σ hx0 h
    refine wr_iload_n (wg_da dt_X12_keepsTold 2 rfl) rfl ?_
    refine wr_bipush (8 : Int32) (wg_da dt_X12_keepsTold 3 rfl) (by decide) ?_
    refine wr_icmp_ge 94 (wg_da dt_X12_keepsTold 4 rfl) (by decide) h (fun h => ?_) (fun h => ?_)
    · refine wr_iconst (0 : Int32) (wg_da dt_X12_keepsTold 57 rfl) (by decide) ?_
      refine wr_istore_n (wg_da dt_X12_keepsTold 58 rfl) (by decide) ?_
      exact wr_wk [true, true] (g_X12_keepsTold_96 l E  _  wg_N x0 (0 : Int32) σ hx0 h)
    · refine wr_aload_n (wg_da dt_X12_keepsTold 5 rfl) rfl ?_
      refine wr_getR wf_X12_19 (wg_da dt_X12_keepsTold 6 rfl) hx0 ?_
      refine wr_iload_n (wg_da dt_X12_keepsTold 7 rfl) rfl ?_
      refine wr_aload_n (wg_da dt_X12_keepsTold 8 rfl) rfl ?_
      refine wr_aload_n (wg_da dt_X12_keepsTold 9 rfl) rfl ?_
      refine wr_getR wf_X12_19 (wg_da dt_X12_keepsTold 10 rfl) hx0 ?_
      refine wr_iload_n (wg_da dt_X12_keepsTold 11 rfl) rfl ?_
      refine wr_iald (wg_da dt_X12_keepsTold 12 rfl) (wg_ty Sm_ok 12 9 0 hx0 rfl (by decide)).2 h (fun v1 h => ?_)
      refine wr_callVi [.int v1] [.int x1, .ref (wg_r Sm x0 9)] (wg_da dt_X12_keepsTold 13 rfl) ⟨wq_9_154, wq_9_156, wq_p10_9⟩ hx0 ⟨rfl, by decide⟩ wy_X12_keeps (fun q hq => m_X12_keeps l E x0 v1 hx0 _ q hq) rfl rfl (Nat.le_of_ble_eq_true rfl) ⟨rfl, rfl, by decide, by decide⟩ h (fun v2 s3 h => ?_)
      refine wr_iast (wg_da dt_X12_keepsTold 14 rfl) (wg_ty Sm_ok 12 9 0 hx0 rfl (by decide)).2 h (fun s4 h => ?_)
      refine wr_aload_n (wg_da dt_X12_keepsTold 15 rfl) rfl ?_
      refine wr_getR wf_X12_74 (wg_da dt_X12_keepsTold 16 rfl) hx0 ?_
      refine wr_iload_n (wg_da dt_X12_keepsTold 17 rfl) rfl ?_
      refine wr_aload_n (wg_da dt_X12_keepsTold 18 rfl) rfl ?_
      refine wr_aload_n (wg_da dt_X12_keepsTold 19 rfl) rfl ?_
      refine wr_getR wf_X12_74 (wg_da dt_X12_keepsTold 20 rfl) hx0 ?_
      refine wr_iload_n (wg_da dt_X12_keepsTold 21 rfl) rfl ?_
      refine wr_iald (wg_da dt_X12_keepsTold 22 rfl) (wg_ty Sm_ok 12 42 0 hx0 rfl (by decide)).2 h (fun v5 h => ?_)
      refine wr_callVi [.int v5] [.int x1, .ref (wg_r Sm x0 42)] (wg_da dt_X12_keepsTold 23 rfl) ⟨wq_9_154, wq_9_156, wq_p10_9⟩ hx0 ⟨rfl, by decide⟩ wy_X12_keeps (fun q hq => m_X12_keeps l E x0 v5 hx0 _ q hq) rfl rfl (Nat.le_of_ble_eq_true rfl) ⟨rfl, rfl, by decide, by decide⟩ h (fun v6 s7 h => ?_)
      refine wr_iast (wg_da dt_X12_keepsTold 24 rfl) (wg_ty Sm_ok 12 42 0 hx0 rfl (by decide)).2 h (fun s8 h => ?_)
      refine wr_aload_n (wg_da dt_X12_keepsTold 25 rfl) rfl ?_
      refine wr_getR wf_X12_83 (wg_da dt_X12_keepsTold 26 rfl) hx0 ?_
      refine wr_iload_n (wg_da dt_X12_keepsTold 27 rfl) rfl ?_
      refine wr_aload_n (wg_da dt_X12_keepsTold 28 rfl) rfl ?_
      refine wr_aload_n (wg_da dt_X12_keepsTold 29 rfl) rfl ?_
      refine wr_getR wf_X12_83 (wg_da dt_X12_keepsTold 30 rfl) hx0 ?_
      refine wr_iload_n (wg_da dt_X12_keepsTold 31 rfl) rfl ?_
      refine wr_iald (wg_da dt_X12_keepsTold 32 rfl) (wg_ty Sm_ok 12 46 0 hx0 rfl (by decide)).2 h (fun v9 h => ?_)
      refine wr_callVi [.int v9] [.int x1, .ref (wg_r Sm x0 46)] (wg_da dt_X12_keepsTold 33 rfl) ⟨wq_9_154, wq_9_156, wq_p10_9⟩ hx0 ⟨rfl, by decide⟩ wy_X12_keeps (fun q hq => m_X12_keeps l E x0 v9 hx0 _ q hq) rfl rfl (Nat.le_of_ble_eq_true rfl) ⟨rfl, rfl, by decide, by decide⟩ h (fun v10 s11 h => ?_)
      refine wr_iast (wg_da dt_X12_keepsTold 34 rfl) (wg_ty Sm_ok 12 46 0 hx0 rfl (by decide)).2 h (fun s12 h => ?_)
      refine wr_aload_n (wg_da dt_X12_keepsTold 35 rfl) rfl ?_
      refine wr_getR wf_X12_86 (wg_da dt_X12_keepsTold 36 rfl) hx0 ?_
      refine wr_iload_n (wg_da dt_X12_keepsTold 37 rfl) rfl ?_
      refine wr_aload_n (wg_da dt_X12_keepsTold 38 rfl) rfl ?_
      refine wr_aload_n (wg_da dt_X12_keepsTold 39 rfl) rfl ?_
      refine wr_getR wf_X12_86 (wg_da dt_X12_keepsTold 40 rfl) hx0 ?_
      refine wr_iload_n (wg_da dt_X12_keepsTold 41 rfl) rfl ?_
      refine wr_iald (wg_da dt_X12_keepsTold 42 rfl) (wg_ty Sm_ok 12 47 0 hx0 rfl (by decide)).2 h (fun v13 h => ?_)
      refine wr_callVi [.int v13] [.int x1, .ref (wg_r Sm x0 47)] (wg_da dt_X12_keepsTold 43 rfl) ⟨wq_9_154, wq_9_156, wq_p10_9⟩ hx0 ⟨rfl, by decide⟩ wy_X12_keeps (fun q hq => m_X12_keeps l E x0 v13 hx0 _ q hq) rfl rfl (Nat.le_of_ble_eq_true rfl) ⟨rfl, rfl, by decide, by decide⟩ h (fun v14 s15 h => ?_)
      refine wr_iast (wg_da dt_X12_keepsTold 44 rfl) (wg_ty Sm_ok 12 47 0 hx0 rfl (by decide)).2 h (fun s16 h => ?_)
      refine wr_aload_n (wg_da dt_X12_keepsTold 45 rfl) rfl ?_
      refine wr_getR wf_X12_89 (wg_da dt_X12_keepsTold 46 rfl) hx0 ?_
      refine wr_iload_n (wg_da dt_X12_keepsTold 47 rfl) rfl ?_
      refine wr_aload_n (wg_da dt_X12_keepsTold 48 rfl) rfl ?_
      refine wr_aload_n (wg_da dt_X12_keepsTold 49 rfl) rfl ?_
      refine wr_getR wf_X12_89 (wg_da dt_X12_keepsTold 50 rfl) hx0 ?_
      refine wr_iload_n (wg_da dt_X12_keepsTold 51 rfl) rfl ?_
      refine wr_iald (wg_da dt_X12_keepsTold 52 rfl) (wg_ty Sm_ok 12 48 0 hx0 rfl (by decide)).2 h (fun v17 h => ?_)
      refine wr_callVi [.int v17] [.int x1, .ref (wg_r Sm x0 48)] (wg_da dt_X12_keepsTold 53 rfl) ⟨wq_9_154, wq_9_156, wq_p10_9⟩ hx0 ⟨rfl, by decide⟩ wy_X12_keeps (fun q hq => m_X12_keeps l E x0 v17 hx0 _ q hq) rfl rfl (Nat.le_of_ble_eq_true rfl) ⟨rfl, rfl, by decide, by decide⟩ h (fun v18 s19 h => ?_)
      refine wr_iast (wg_da dt_X12_keepsTold 54 rfl) (wg_ty Sm_ok 12 48 0 hx0 rfl (by decide)).2 h (fun s20 h => ?_)
      refine wr_iinc (c0 := (1 : Int32)) (wg_da dt_X12_keepsTold 55 rfl) rfl (by decide) (by decide) h (fun v21 h => ?_)
      refine wr_goto 2 (wg_da dt_X12_keepsTold 56 rfl) (by decide) ?_
      exact wr_wk [true, true] (ih x0 v21 s20 hx0 h)
set_option maxRecDepth 20000 in
theorem g_X12_keepsTold_e (l : Launch) (E : wg_E)  (x0 : Nat) (σ : wg_M) (z : Int32 × wg_M) (hx0 : wg_t Sm x0 = 14) (h : f_X12_keepsTold  x0 σ = some z) : wg_G l E Sm "WornWigsModel" cX12_keepsTold 2 none rm_X12_keepsTold none z.2 0 [some (.ref x0), none] [] σ := by
  refine wr_iconst (0 : Int32) (wg_da dt_X12_keepsTold 0 rfl) (by decide) ?_
  refine wr_istore_n (wg_da dt_X12_keepsTold 1 rfl) (by decide) ?_
  exact wr_wk [true, true] (g_X12_keepsTold_2 l E  _  wg_N x0 (0 : Int32) σ hx0 h)
theorem m_X12_keepsTold (l : Launch) (E : wg_E) (x0 : Nat) (hx0 : wg_t Sm x0 = 14) (σ : wg_M) (q : Int32 × wg_M) (h : f_X12_keepsTold x0 σ = some q) : wg_MG l E Sm yX12_keepsTold cX12_keepsTold 2 none rm_X12_keepsTold [.ref x0] σ none q.2 :=
  wg_met [.ref x0] (plainFor_of_name (by decide)) (Nat.le_of_ble_eq_true rfl) (g_X12_keepsTold_e l E x0 σ q hx0 h)
abbrev rm_X12_image : Room := { frames := 2, cells := 0, slots := 0, locals := 42 }
def tb_X12_image : List (Nat × Instr × Nat) := [(0, .aload_n 0, 1), (1, .iconst 0, 1), (2, .putfield 113, 3), (5, .iload_n 1, 1), (6, .ifCond .ne 12, 3), (9, .aload_n 0, 1), (10, .getfield 517, 3), (13, .ifCond .ne 5, 3), (16, .iconst 0, 1), (17, .ireturn, 1), (18, .aload_n 0, 1), (19, .iload_n 1, 1), (20, .putfield 511, 3), (23, .aload_n 0, 1), (24, .iconst 1, 1), (25, .putfield 517, 3), (28, .aload_n 0, 1), (29, .iconst 0, 1), (30, .putfield 508, 3), (33, .iconst 0, 1), (34, .istore_n 2, 1), (35, .iload_n 2, 1), (36, .sipush 295, 3), (39, .if_icmp .ge 25, 3), (42, .aload_n 0, 1), (43, .getfield 7, 3), (46, .iload_n 2, 1), (47, .aload_n 0, 1), (48, .aload_n 0, 1), (49, .getfield 7, 3), (52, .iload_n 2, 1), (53, .iaload, 1), (54, .invokevirtual 514, 3), (57, .iastore, 1), (58, .iinc 2 1, 3), (61, .goto (-26), 3), (64, .aload_n 0, 1), (65, .invokevirtual 520, 3), (68, .aload_n 0, 1), (69, .invokevirtual 523, 3), (72, .iconst 0, 1), (73, .istore_n 2, 1), (74, .iload_n 2, 1), (75, .sipush 600, 3), (78, .if_icmp .ge 25, 3), (81, .aload_n 0, 1), (82, .getfield 31, 3), (85, .iload_n 2, 1), (86, .aload_n 0, 1), (87, .aload_n 0, 1), (88, .getfield 31, 3), (91, .iload_n 2, 1), (92, .iaload, 1), (93, .invokevirtual 514, 3), (96, .iastore, 1), (97, .iinc 2 1, 3), (100, .goto (-26), 3), (103, .aload_n 0, 1), (104, .invokevirtual 526, 3), (107, .iload_n 1, 1), (108, .ifCond .ne 8, 3), (111, .aload_n 0, 1), (112, .iconst 0, 1), (113, .putfield 116, 3), (116, .iconst 1, 1), (117, .ireturn, 1)]
theorem dt_X12_image : wg_dc cX12_image tb_X12_image := by unfold wg_dc; decide +kernel
def f_X12_image_74  : Nat → Nat → Int32 → Int32 → wg_M → Option (Int32 × wg_M)
  | 0, _, _, _, _ => none
  | n + 1, x0, x1, x2, σ => if (600 : Int32) ≤ x2 then (wg_bd (f_X12_keepsLaw x0 σ) (fun _ s1 => if x1 = 0 then (wg_st s1 x0 3 (0 : Int32) (fun s2 => some ((1 : Int32), s2))) else (some ((1 : Int32), s1)))) else (wg_ga (wg_n Sm (wg_r Sm x0 13)) (σ (wg_r Sm x0 13)) x2 (fun v3 => wg_bd (f_X12_keeps x0 v3 σ) (fun v4 s5 => wg_sa (wg_n Sm (wg_r Sm x0 13)) s5 (wg_r Sm x0 13) x2 v4 (fun s6 => wg_let (x2 + (1 : Int32)) (fun v7 => f_X12_image_74  n x0 x1 v7 s6)))))
def f_X12_image_35  : Nat → Nat → Int32 → Int32 → wg_M → Option (Int32 × wg_M)
  | 0, _, _, _, _ => none
  | n + 1, x0, x1, x2, σ => if (295 : Int32) ≤ x2 then (wg_bd (f_X12_keepsMany x0 σ) (fun _ s1 => wg_bd (f_X12_keepsTold x0 s1) (fun _ s2 => f_X12_image_74  wg_N x0 x1 (0 : Int32) s2))) else (wg_ga (wg_n Sm (wg_r Sm x0 1)) (σ (wg_r Sm x0 1)) x2 (fun v3 => wg_bd (f_X12_keeps x0 v3 σ) (fun v4 s5 => wg_sa (wg_n Sm (wg_r Sm x0 1)) s5 (wg_r Sm x0 1) x2 v4 (fun s6 => wg_let (x2 + (1 : Int32)) (fun v7 => f_X12_image_35  n x0 x1 v7 s6)))))
def f_X12_image_18  (x0 : Nat) (x1 : Int32) (σ : wg_M) : Option (Int32 × wg_M) := wg_bz x1 (wg_st σ x0 57 x1 (fun s1 => wg_bz (1 : Int32) (wg_st s1 x0 58 (1 : Int32) (fun s2 => wg_st s2 x0 59 (0 : Int32) (fun s3 => f_X12_image_35  wg_N x0 x1 (0 : Int32) s3)))))
def f_X12_image  (x0 : Nat) (x1 : Int32) (σ : wg_M) : Option (Int32 × wg_M) := wg_st σ x0 0 (0 : Int32) (fun s1 => if x1 = 0 then (if (s1 x0 58) = 0 then (some ((0 : Int32), s1)) else (f_X12_image_18  x0 x1 s1)) else (f_X12_image_18  x0 x1 s1))
set_option maxRecDepth 20000 in
theorem g_X12_image_74 (l : Launch) (E : wg_E)  (z : Int32 × wg_M) : ∀ (n : Nat) (x0 : Nat) (x1 : Int32) (x2 : Int32) (σ : wg_M) (hx0 : wg_t Sm x0 = 14) (h : f_X12_image_74  n x0 x1 x2 σ = some z), wg_G l E Sm "WornWigsModel" cX12_image 3 (some .boolean) rm_X12_image (some z.1) z.2 74 [some (.ref x0), some (.int x1), some (.int x2)] [] σ := by
  intro n
  induction n with
  | zero => intro x0 x1 x2 σ hx0 h; cases h
  | succ n ih =>
    intro x0 x1 x2 σ hx0 h
    refine wr_iload_n (wg_da dt_X12_image 42 rfl) rfl ?_
    refine wr_sipush (600 : Int32) (wg_da dt_X12_image 43 rfl) (by decide) ?_
    refine wr_icmp_ge 103 (wg_da dt_X12_image 44 rfl) (by decide) h (fun h => ?_) (fun h => ?_)
    · refine wr_aload_n (wg_da dt_X12_image 57 rfl) rfl ?_
      refine wr_callVv [] [] (wg_da dt_X12_image 58 rfl) ⟨wq_9_166, wq_9_168, wq_p10_12⟩ hx0 ⟨rfl, by decide⟩ wy_X12_keepsLaw (fun q hq => m_X12_keepsLaw l E x0 hx0 _ q hq) rfl rfl (Nat.le_of_ble_eq_true rfl) ⟨rfl, rfl, by decide, by decide⟩ h (fun _ s1 h => ?_)
      refine wr_iload_n (wg_da dt_X12_image 59 rfl) rfl ?_
      refine wr_if_ne 116 (wg_da dt_X12_image 60 rfl) (by decide) h (fun h => ?_) (fun h => ?_)
      · refine wr_aload_n (wg_da dt_X12_image 61 rfl) rfl ?_
        refine wr_iconst (0 : Int32) (wg_da dt_X12_image 62 rfl) (by decide) ?_
        refine wr_putI wfp_X12_116 (wg_da dt_X12_image 63 rfl) hx0 h (fun s2 h => ?_)
        refine wr_iconst (1 : Int32) (wg_da dt_X12_image 64 rfl) (by decide) ?_
        exact wr_zret1 (wg_da dt_X12_image 65 rfl) h
      · refine wr_iconst (1 : Int32) (wg_da dt_X12_image 64 rfl) (by decide) ?_
        exact wr_zret1 (wg_da dt_X12_image 65 rfl) h
    · refine wr_aload_n (wg_da dt_X12_image 45 rfl) rfl ?_
      refine wr_getR wf_X12_31 (wg_da dt_X12_image 46 rfl) hx0 ?_
      refine wr_iload_n (wg_da dt_X12_image 47 rfl) rfl ?_
      refine wr_aload_n (wg_da dt_X12_image 48 rfl) rfl ?_
      refine wr_aload_n (wg_da dt_X12_image 49 rfl) rfl ?_
      refine wr_getR wf_X12_31 (wg_da dt_X12_image 50 rfl) hx0 ?_
      refine wr_iload_n (wg_da dt_X12_image 51 rfl) rfl ?_
      refine wr_iald (wg_da dt_X12_image 52 rfl) (wg_ty Sm_ok 12 13 0 hx0 rfl (by decide)).2 h (fun v3 h => ?_)
      refine wr_callVi [.int v3] [.int x2, .ref (wg_r Sm x0 13)] (wg_da dt_X12_image 53 rfl) ⟨wq_9_154, wq_9_156, wq_p10_9⟩ hx0 ⟨rfl, by decide⟩ wy_X12_keeps (fun q hq => m_X12_keeps l E x0 v3 hx0 _ q hq) rfl rfl (Nat.le_of_ble_eq_true rfl) ⟨rfl, rfl, by decide, by decide⟩ h (fun v4 s5 h => ?_)
      refine wr_iast (wg_da dt_X12_image 54 rfl) (wg_ty Sm_ok 12 13 0 hx0 rfl (by decide)).2 h (fun s6 h => ?_)
      refine wr_iinc (c0 := (1 : Int32)) (wg_da dt_X12_image 55 rfl) rfl (by decide) (by decide) h (fun v7 h => ?_)
      refine wr_goto 74 (wg_da dt_X12_image 56 rfl) (by decide) ?_
      exact wr_wk [true, true, true] (ih x0 x1 v7 s6 hx0 h)
set_option maxRecDepth 20000 in
theorem g_X12_image_35 (l : Launch) (E : wg_E)  (z : Int32 × wg_M) : ∀ (n : Nat) (x0 : Nat) (x1 : Int32) (x2 : Int32) (σ : wg_M) (hx0 : wg_t Sm x0 = 14) (h : f_X12_image_35  n x0 x1 x2 σ = some z), wg_G l E Sm "WornWigsModel" cX12_image 3 (some .boolean) rm_X12_image (some z.1) z.2 35 [some (.ref x0), some (.int x1), some (.int x2)] [] σ := by
  intro n
  induction n with
  | zero => intro x0 x1 x2 σ hx0 h; cases h
  | succ n ih =>
    intro x0 x1 x2 σ hx0 h
    refine wr_iload_n (wg_da dt_X12_image 21 rfl) rfl ?_
    refine wr_sipush (295 : Int32) (wg_da dt_X12_image 22 rfl) (by decide) ?_
    refine wr_icmp_ge 64 (wg_da dt_X12_image 23 rfl) (by decide) h (fun h => ?_) (fun h => ?_)
    · refine wr_aload_n (wg_da dt_X12_image 36 rfl) rfl ?_
      refine wr_callVv [] [] (wg_da dt_X12_image 37 rfl) ⟨wq_9_158, wq_9_160, wq_p10_10⟩ hx0 ⟨rfl, by decide⟩ wy_X12_keepsMany (fun q hq => m_X12_keepsMany l E x0 hx0 _ q hq) rfl rfl (Nat.le_of_ble_eq_true rfl) ⟨rfl, rfl, by decide, by decide⟩ h (fun _ s1 h => ?_)
      refine wr_aload_n (wg_da dt_X12_image 38 rfl) rfl ?_
      refine wr_callVv [] [] (wg_da dt_X12_image 39 rfl) ⟨wq_9_162, wq_9_164, wq_p10_11⟩ hx0 ⟨rfl, by decide⟩ wy_X12_keepsTold (fun q hq => m_X12_keepsTold l E x0 hx0 _ q hq) rfl rfl (Nat.le_of_ble_eq_true rfl) ⟨rfl, rfl, by decide, by decide⟩ h (fun _ s2 h => ?_)
      refine wr_iconst (0 : Int32) (wg_da dt_X12_image 40 rfl) (by decide) ?_
      refine wr_istore_n (wg_da dt_X12_image 41 rfl) (by decide) ?_
      exact wr_wk [true, true, true] (g_X12_image_74 l E  _  wg_N x0 x1 (0 : Int32) s2 hx0 h)
    · refine wr_aload_n (wg_da dt_X12_image 24 rfl) rfl ?_
      refine wr_getR wf_X12_7 (wg_da dt_X12_image 25 rfl) hx0 ?_
      refine wr_iload_n (wg_da dt_X12_image 26 rfl) rfl ?_
      refine wr_aload_n (wg_da dt_X12_image 27 rfl) rfl ?_
      refine wr_aload_n (wg_da dt_X12_image 28 rfl) rfl ?_
      refine wr_getR wf_X12_7 (wg_da dt_X12_image 29 rfl) hx0 ?_
      refine wr_iload_n (wg_da dt_X12_image 30 rfl) rfl ?_
      refine wr_iald (wg_da dt_X12_image 31 rfl) (wg_ty Sm_ok 12 1 0 hx0 rfl (by decide)).2 h (fun v3 h => ?_)
      refine wr_callVi [.int v3] [.int x2, .ref (wg_r Sm x0 1)] (wg_da dt_X12_image 32 rfl) ⟨wq_9_154, wq_9_156, wq_p10_9⟩ hx0 ⟨rfl, by decide⟩ wy_X12_keeps (fun q hq => m_X12_keeps l E x0 v3 hx0 _ q hq) rfl rfl (Nat.le_of_ble_eq_true rfl) ⟨rfl, rfl, by decide, by decide⟩ h (fun v4 s5 h => ?_)
      refine wr_iast (wg_da dt_X12_image 33 rfl) (wg_ty Sm_ok 12 1 0 hx0 rfl (by decide)).2 h (fun s6 h => ?_)
      refine wr_iinc (c0 := (1 : Int32)) (wg_da dt_X12_image 34 rfl) rfl (by decide) (by decide) h (fun v7 h => ?_)
      refine wr_goto 35 (wg_da dt_X12_image 35 rfl) (by decide) ?_
      exact wr_wk [true, true, true] (ih x0 x1 v7 s6 hx0 h)
set_option maxRecDepth 20000 in
theorem g_X12_image_18 (l : Launch) (E : wg_E)  (x0 : Nat) (x1 : Int32) (σ : wg_M) (z : Int32 × wg_M) (hx0 : wg_t Sm x0 = 14) (h : f_X12_image_18  x0 x1 σ = some z) : wg_G l E Sm "WornWigsModel" cX12_image 3 (some .boolean) rm_X12_image (some z.1) z.2 18 [some (.ref x0), some (.int x1), none] [] σ := by
  refine wr_aload_n (wg_da dt_X12_image 10 rfl) rfl ?_
  refine wr_iload_n (wg_da dt_X12_image 11 rfl) rfl ?_
  refine wr_putZ wfp_X12_511 (wg_da dt_X12_image 12 rfl) hx0 h (fun s1 h => ?_)
  refine wr_aload_n (wg_da dt_X12_image 13 rfl) rfl ?_
  refine wr_iconst (1 : Int32) (wg_da dt_X12_image 14 rfl) (by decide) ?_
  refine wr_putZ wfp_X12_517 (wg_da dt_X12_image 15 rfl) hx0 h (fun s2 h => ?_)
  refine wr_aload_n (wg_da dt_X12_image 16 rfl) rfl ?_
  refine wr_iconst (0 : Int32) (wg_da dt_X12_image 17 rfl) (by decide) ?_
  refine wr_putI wfp_X12_508 (wg_da dt_X12_image 18 rfl) hx0 h (fun s3 h => ?_)
  refine wr_iconst (0 : Int32) (wg_da dt_X12_image 19 rfl) (by decide) ?_
  refine wr_istore_n (wg_da dt_X12_image 20 rfl) (by decide) ?_
  exact wr_wk [true, true, true] (g_X12_image_35 l E  _  wg_N x0 x1 (0 : Int32) s3 hx0 h)
set_option maxRecDepth 20000 in
theorem g_X12_image_e (l : Launch) (E : wg_E)  (x0 : Nat) (x1 : Int32) (σ : wg_M) (z : Int32 × wg_M) (hx0 : wg_t Sm x0 = 14) (h : f_X12_image  x0 x1 σ = some z) : wg_G l E Sm "WornWigsModel" cX12_image 3 (some .boolean) rm_X12_image (some z.1) z.2 0 [some (.ref x0), some (.int x1), none] [] σ := by
  refine wr_aload_n (wg_da dt_X12_image 0 rfl) rfl ?_
  refine wr_iconst (0 : Int32) (wg_da dt_X12_image 1 rfl) (by decide) ?_
  refine wr_putI wfp_X12_113 (wg_da dt_X12_image 2 rfl) hx0 h (fun s1 h => ?_)
  refine wr_iload_n (wg_da dt_X12_image 3 rfl) rfl ?_
  refine wr_if_ne 18 (wg_da dt_X12_image 4 rfl) (by decide) h (fun h => ?_) (fun h => ?_)
  · refine wr_aload_n (wg_da dt_X12_image 5 rfl) rfl ?_
    refine wr_getI wf_X12_517 (wg_da dt_X12_image 6 rfl) hx0 ?_
    refine wr_if_ne 18 (wg_da dt_X12_image 7 rfl) (by decide) h (fun h => ?_) (fun h => ?_)
    · refine wr_iconst (0 : Int32) (wg_da dt_X12_image 8 rfl) (by decide) ?_
      exact wr_zret0 (wg_da dt_X12_image 9 rfl) h
    · exact wr_wk [true, true, false] (g_X12_image_18 l E  x0 x1 s1 _ hx0  h)
  · exact wr_wk [true, true, false] (g_X12_image_18 l E  x0 x1 s1 _ hx0  h)
theorem m_X12_image (l : Launch) (E : wg_E) (x0 : Nat) (x1 : Int32) (hx0 : wg_t Sm x0 = 14) (σ : wg_M) (q : Int32 × wg_M) (h : f_X12_image x0 x1 σ = some q) : wg_MG l E Sm yX12_image cX12_image 3 (some .boolean) rm_X12_image [.ref x0, .int x1] σ (some q.1) q.2 :=
  wg_met [.ref x0, .int x1] (plainFor_of_name (by decide)) (Nat.le_of_ble_eq_true rfl) (g_X12_image_e l E x0 x1 σ q hx0 h)
abbrev rm_X12_openSet : Room := { frames := 0, cells := 0, slots := 0, locals := 0 }
def tb_X12_openSet : List (Nat × Instr × Nat) := [(0, .iconst 0, 1), (1, .istore_n 1, 1), (2, .iconst 0, 1), (3, .istore_n 2, 1), (4, .iload_n 2, 1), (5, .aload_n 0, 1), (6, .getfield 131, 3), (9, .if_icmp .ge 28, 3), (12, .aload_n 0, 1), (13, .getfield 7, 3), (16, .sipush 267, 3), (19, .iload_n 2, 1), (20, .iadd, 1), (21, .iaload, 1), (22, .ifCond .ne 9, 3), (25, .iload_n 1, 1), (26, .iconst 1, 1), (27, .iload_n 2, 1), (28, .ishl, 1), (29, .ior, 1), (30, .istore_n 1, 1), (31, .iinc 2 1, 3), (34, .goto (-30), 3), (37, .iload_n 1, 1), (38, .ireturn, 1)]
theorem dt_X12_openSet : wg_dc cX12_openSet tb_X12_openSet := by unfold wg_dc; decide +kernel
def f_X12_openSet_31 (k4 : Nat → Int32 → Int32 → wg_M → Option (Int32 × wg_M)) (x0 : Nat) (x1 : Int32) (x2 : Int32) (σ : wg_M) : Option (Int32 × wg_M) := wg_let (x2 + (1 : Int32)) (fun v1 => k4 x0 x1 v1 σ)
def f_X12_openSet_4  : Nat → Nat → Int32 → Int32 → wg_M → Option (Int32 × wg_M)
  | 0, _, _, _, _ => none
  | n + 1, x0, x1, x2, σ => if (σ x0 8) ≤ x2 then (some (x1, σ)) else (wg_ga (wg_n Sm (wg_r Sm x0 1)) (σ (wg_r Sm x0 1)) ((267 : Int32) + x2) (fun v1 => if v1 = 0 then (wg_let (x1 ||| ((1 : Int32) <<< (x2 &&& 31))) (fun v2 => f_X12_openSet_31 (f_X12_openSet_4  n) x0 v2 x2 σ)) else (f_X12_openSet_31 (f_X12_openSet_4  n) x0 x1 x2 σ)))
def f_X12_openSet  (x0 : Nat) (σ : wg_M) : Option (Int32 × wg_M) := f_X12_openSet_4  wg_N x0 (0 : Int32) (0 : Int32) σ
set_option maxRecDepth 20000 in
theorem g_X12_openSet_31 (l : Launch) (E : wg_E) (k4 : Nat → Int32 → Int32 → wg_M → Option (Int32 × wg_M)) (x0 : Nat) (x1 : Int32) (x2 : Int32) (σ : wg_M) (z : Int32 × wg_M) (hx0 : wg_t Sm x0 = 14) (hk4 : ∀ (x0 : Nat) (x1 : Int32) (x2 : Int32) (σ : wg_M), wg_t Sm x0 = 14 → k4 x0 x1 x2 σ = some z → wg_G l E Sm "WornWigsModel" cX12_openSet 3 (some .int) rm_X12_openSet (some z.1) z.2 4 [some (.ref x0), some (.int x1), some (.int x2)] [] σ) (h : f_X12_openSet_31 k4 x0 x1 x2 σ = some z) : wg_G l E Sm "WornWigsModel" cX12_openSet 3 (some .int) rm_X12_openSet (some z.1) z.2 31 [some (.ref x0), some (.int x1), some (.int x2)] [] σ := by
  refine wr_iinc (c0 := (1 : Int32)) (wg_da dt_X12_openSet 21 rfl) rfl (by decide) (by decide) h (fun v1 h => ?_)
  refine wr_goto 4 (wg_da dt_X12_openSet 22 rfl) (by decide) ?_
  exact wr_wk [true, true, true] (hk4 x0 x1 v1 σ hx0 h)
set_option maxRecDepth 20000 in
theorem g_X12_openSet_4 (l : Launch) (E : wg_E)  (z : Int32 × wg_M) : ∀ (n : Nat) (x0 : Nat) (x1 : Int32) (x2 : Int32) (σ : wg_M) (hx0 : wg_t Sm x0 = 14) (h : f_X12_openSet_4  n x0 x1 x2 σ = some z), wg_G l E Sm "WornWigsModel" cX12_openSet 3 (some .int) rm_X12_openSet (some z.1) z.2 4 [some (.ref x0), some (.int x1), some (.int x2)] [] σ := by
  intro n
  induction n with
  | zero => intro x0 x1 x2 σ hx0 h; cases h
  | succ n ih =>
    intro x0 x1 x2 σ hx0 h
    refine wr_iload_n (wg_da dt_X12_openSet 4 rfl) rfl ?_
    refine wr_aload_n (wg_da dt_X12_openSet 5 rfl) rfl ?_
    refine wr_getI wf_X12_131 (wg_da dt_X12_openSet 6 rfl) hx0 ?_
    refine wr_icmp_ge 37 (wg_da dt_X12_openSet 7 rfl) (by decide) h (fun h => ?_) (fun h => ?_)
    · refine wr_iload_n (wg_da dt_X12_openSet 23 rfl) rfl ?_
      exact wr_iret (wg_da dt_X12_openSet 24 rfl) h
    · refine wr_aload_n (wg_da dt_X12_openSet 8 rfl) rfl ?_
      refine wr_getR wf_X12_7 (wg_da dt_X12_openSet 9 rfl) hx0 ?_
      refine wr_sipush (267 : Int32) (wg_da dt_X12_openSet 10 rfl) (by decide) ?_
      refine wr_iload_n (wg_da dt_X12_openSet 11 rfl) rfl ?_
      refine wr_iadd (wg_da dt_X12_openSet 12 rfl) ?_
      refine wr_iald (wg_da dt_X12_openSet 13 rfl) (wg_ty Sm_ok 12 1 0 hx0 rfl (by decide)).2 h (fun v1 h => ?_)
      refine wr_if_ne 31 (wg_da dt_X12_openSet 14 rfl) (by decide) h (fun h => ?_) (fun h => ?_)
      · refine wr_iload_n (wg_da dt_X12_openSet 15 rfl) rfl ?_
        refine wr_iconst (1 : Int32) (wg_da dt_X12_openSet 16 rfl) (by decide) ?_
        refine wr_iload_n (wg_da dt_X12_openSet 17 rfl) rfl ?_
        refine wr_ishl (wg_da dt_X12_openSet 18 rfl) ?_
        refine wr_ior (wg_da dt_X12_openSet 19 rfl) ?_
        refine wr_let h (fun v2 h => ?_)
        refine wr_istore_n (wg_da dt_X12_openSet 20 rfl) (by decide) ?_
        exact wr_wk [true, true, true] (g_X12_openSet_31 l E (f_X12_openSet_4  n) x0 v2 x2 σ _ hx0 (fun x0 x1 x2 σ hx0 h => ih x0 x1 x2 σ hx0 h) h)
      · exact wr_wk [true, true, true] (g_X12_openSet_31 l E (f_X12_openSet_4  n) x0 x1 x2 σ _ hx0 (fun x0 x1 x2 σ hx0 h => ih x0 x1 x2 σ hx0 h) h)
set_option maxRecDepth 20000 in
theorem g_X12_openSet_e (l : Launch) (E : wg_E)  (x0 : Nat) (σ : wg_M) (z : Int32 × wg_M) (hx0 : wg_t Sm x0 = 14) (h : f_X12_openSet  x0 σ = some z) : wg_G l E Sm "WornWigsModel" cX12_openSet 3 (some .int) rm_X12_openSet (some z.1) z.2 0 [some (.ref x0), none, none] [] σ := by
  refine wr_iconst (0 : Int32) (wg_da dt_X12_openSet 0 rfl) (by decide) ?_
  refine wr_istore_n (wg_da dt_X12_openSet 1 rfl) (by decide) ?_
  refine wr_iconst (0 : Int32) (wg_da dt_X12_openSet 2 rfl) (by decide) ?_
  refine wr_istore_n (wg_da dt_X12_openSet 3 rfl) (by decide) ?_
  exact wr_wk [true, true, true] (g_X12_openSet_4 l E  _  wg_N x0 (0 : Int32) (0 : Int32) σ hx0 h)
theorem m_X12_openSet (l : Launch) (E : wg_E) (x0 : Nat) (hx0 : wg_t Sm x0 = 14) (σ : wg_M) (q : Int32 × wg_M) (h : f_X12_openSet x0 σ = some q) : wg_MG l E Sm yX12_openSet cX12_openSet 3 (some .int) rm_X12_openSet [.ref x0] σ (some q.1) q.2 :=
  wg_met [.ref x0] (plainFor_of_name (by decide)) (Nat.le_of_ble_eq_true rfl) (g_X12_openSet_e l E x0 σ q hx0 h)
abbrev rm_X12_look : Room := { frames := 2, cells := 0, slots := 0, locals := 43 }
def tb_X12_look : List (Nat × Instr × Nat) := [(0, .aload_n 0, 1), (1, .iconst 0, 1), (2, .putfield 113, 3), (5, .iload_n 1, 1), (6, .ifCond .ne 8, 3), (9, .aload_n 0, 1), (10, .getfield 125, 3), (13, .ireturn, 1), (14, .iload_n 1, 1), (15, .iconst 1, 1), (16, .if_icmp .ne 8, 3), (19, .aload_n 0, 1), (20, .getfield 128, 3), (23, .ireturn, 1), (24, .iload_n 1, 1), (25, .iconst 2, 1), (26, .if_icmp .ne 8, 3), (29, .aload_n 0, 1), (30, .getfield 131, 3), (33, .ireturn, 1), (34, .iload_n 1, 1), (35, .iconst 3, 1), (36, .if_icmp .ne 10, 3), (39, .aload_n 0, 1), (40, .getfield 7, 3), (43, .iconst 0, 1), (44, .iaload, 1), (45, .ireturn, 1), (46, .iload_n 1, 1), (47, .iconst 4, 1), (48, .if_icmp .ne 8, 3), (51, .aload_n 0, 1), (52, .invokevirtual 432, 3), (55, .ireturn, 1), (56, .iload_n 1, 1), (57, .iconst 5, 1), (58, .if_icmp .ne 8, 3), (61, .aload_n 0, 1), (62, .invokevirtual 529, 3), (65, .ireturn, 1), (66, .iload_n 1, 1), (67, .bipush 6, 2), (69, .if_icmp .ne 10, 3), (72, .aload_n 0, 1), (73, .getfield 7, 3), (76, .iconst 2, 1), (77, .iaload, 1), (78, .ireturn, 1), (79, .iload_n 1, 1), (80, .bipush 7, 2), (82, .if_icmp .ne 10, 3), (85, .aload_n 0, 1), (86, .getfield 7, 3), (89, .iconst 1, 1), (90, .iaload, 1), (91, .ireturn, 1), (92, .iload_n 1, 1), (93, .bipush 8, 2), (95, .if_icmp .ne 10, 3), (98, .aload_n 0, 1), (99, .getfield 40, 3), (102, .iconst 0, 1), (103, .iaload, 1), (104, .ireturn, 1), (105, .iload_n 1, 1), (106, .bipush 9, 2), (108, .if_icmp .ne 8, 3), (111, .aload_n 0, 1), (112, .getfield 309, 3), (115, .ireturn, 1), (116, .iload_n 1, 1), (117, .bipush 10, 2), (119, .if_icmp .ne 8, 3), (122, .aload_n 0, 1), (123, .getfield 312, 3), (126, .ireturn, 1), (127, .iload_n 1, 1), (128, .bipush 11, 2), (130, .if_icmp .ne 8, 3), (133, .aload_n 0, 1), (134, .getfield 306, 3), (137, .ireturn, 1), (138, .iload_n 1, 1), (139, .bipush 12, 2), (141, .if_icmp .ne 10, 3), (144, .aload_n 0, 1), (145, .getfield 116, 3), (148, .goto 4, 3), (151, .iconst (-1), 1), (152, .ireturn, 1)]
theorem dt_X12_look : wg_dc cX12_look tb_X12_look := by unfold wg_dc; decide +kernel
def f_X12_look  (x0 : Nat) (x1 : Int32) (σ : wg_M) : Option (Int32 × wg_M) := wg_st σ x0 0 (0 : Int32) (fun s1 => if x1 = 0 then (some (s1 x0 6, s1)) else (if x1 = (1 : Int32) then (some (s1 x0 7, s1)) else (if x1 = (2 : Int32) then (some (s1 x0 8, s1)) else (if x1 = (3 : Int32) then (wg_ga (wg_n Sm (wg_r Sm x0 1)) (s1 (wg_r Sm x0 1)) (0 : Int32) (fun v9 => some (v9, s1))) else (if x1 = (4 : Int32) then (wg_bd (f_X12_deadSet x0 s1) (fun v7 s8 => some (v7, s8))) else (if x1 = (5 : Int32) then (wg_bd (f_X12_openSet x0 s1) (fun v5 s6 => some (v5, s6))) else (if x1 = (6 : Int32) then (wg_ga (wg_n Sm (wg_r Sm x0 1)) (s1 (wg_r Sm x0 1)) (2 : Int32) (fun v4 => some (v4, s1))) else (if x1 = (7 : Int32) then (wg_ga (wg_n Sm (wg_r Sm x0 1)) (s1 (wg_r Sm x0 1)) (1 : Int32) (fun v3 => some (v3, s1))) else (if x1 = (8 : Int32) then (wg_ga (wg_n Sm (wg_r Sm x0 21)) (s1 (wg_r Sm x0 21)) (0 : Int32) (fun v2 => some (v2, s1))) else (if x1 = (9 : Int32) then (some (s1 x0 37, s1)) else (if x1 = (10 : Int32) then (some (s1 x0 39, s1)) else (if x1 = (11 : Int32) then (some (s1 x0 41, s1)) else (if x1 = (12 : Int32) then (some (s1 x0 3, s1)) else (some ((-1 : Int32), s1)))))))))))))))
set_option maxRecDepth 20000 in
theorem g_X12_look_e (l : Launch) (E : wg_E)  (x0 : Nat) (x1 : Int32) (σ : wg_M) (z : Int32 × wg_M) (hx0 : wg_t Sm x0 = 14) (h : f_X12_look  x0 x1 σ = some z) : wg_G l E Sm "WornWigsModel" cX12_look 2 (some .int) rm_X12_look (some z.1) z.2 0 [some (.ref x0), some (.int x1)] [] σ := by
  refine wr_aload_n (wg_da dt_X12_look 0 rfl) rfl ?_
  refine wr_iconst (0 : Int32) (wg_da dt_X12_look 1 rfl) (by decide) ?_
  refine wr_putI wfp_X12_113 (wg_da dt_X12_look 2 rfl) hx0 h (fun s1 h => ?_)
  refine wr_iload_n (wg_da dt_X12_look 3 rfl) rfl ?_
  refine wr_if_ne 14 (wg_da dt_X12_look 4 rfl) (by decide) h (fun h => ?_) (fun h => ?_)
  · refine wr_aload_n (wg_da dt_X12_look 5 rfl) rfl ?_
    refine wr_getI wf_X12_125 (wg_da dt_X12_look 6 rfl) hx0 ?_
    exact wr_iret (wg_da dt_X12_look 7 rfl) h
  · refine wr_iload_n (wg_da dt_X12_look 8 rfl) rfl ?_
    refine wr_iconst (1 : Int32) (wg_da dt_X12_look 9 rfl) (by decide) ?_
    refine wr_icmp_ne 24 (wg_da dt_X12_look 10 rfl) (by decide) h (fun h => ?_) (fun h => ?_)
    · refine wr_aload_n (wg_da dt_X12_look 11 rfl) rfl ?_
      refine wr_getI wf_X12_128 (wg_da dt_X12_look 12 rfl) hx0 ?_
      exact wr_iret (wg_da dt_X12_look 13 rfl) h
    · refine wr_iload_n (wg_da dt_X12_look 14 rfl) rfl ?_
      refine wr_iconst (2 : Int32) (wg_da dt_X12_look 15 rfl) (by decide) ?_
      refine wr_icmp_ne 34 (wg_da dt_X12_look 16 rfl) (by decide) h (fun h => ?_) (fun h => ?_)
      · refine wr_aload_n (wg_da dt_X12_look 17 rfl) rfl ?_
        refine wr_getI wf_X12_131 (wg_da dt_X12_look 18 rfl) hx0 ?_
        exact wr_iret (wg_da dt_X12_look 19 rfl) h
      · refine wr_iload_n (wg_da dt_X12_look 20 rfl) rfl ?_
        refine wr_iconst (3 : Int32) (wg_da dt_X12_look 21 rfl) (by decide) ?_
        refine wr_icmp_ne 46 (wg_da dt_X12_look 22 rfl) (by decide) h (fun h => ?_) (fun h => ?_)
        · refine wr_aload_n (wg_da dt_X12_look 23 rfl) rfl ?_
          refine wr_getR wf_X12_7 (wg_da dt_X12_look 24 rfl) hx0 ?_
          refine wr_iconst (0 : Int32) (wg_da dt_X12_look 25 rfl) (by decide) ?_
          refine wr_iald (wg_da dt_X12_look 26 rfl) (wg_ty Sm_ok 12 1 0 hx0 rfl (by decide)).2 h (fun v9 h => ?_)
          exact wr_iret (wg_da dt_X12_look 27 rfl) h
        · refine wr_iload_n (wg_da dt_X12_look 28 rfl) rfl ?_
          refine wr_iconst (4 : Int32) (wg_da dt_X12_look 29 rfl) (by decide) ?_
          refine wr_icmp_ne 56 (wg_da dt_X12_look 30 rfl) (by decide) h (fun h => ?_) (fun h => ?_)
          · refine wr_aload_n (wg_da dt_X12_look 31 rfl) rfl ?_
            refine wr_callVi [] [] (wg_da dt_X12_look 32 rfl) ⟨wq_8_233, wq_8_235, wq_p9_3⟩ hx0 ⟨rfl, by decide⟩ wy_X12_deadSet (fun q hq => m_X12_deadSet l E x0 hx0 _ q hq) rfl rfl (Nat.le_of_ble_eq_true rfl) ⟨rfl, rfl, by decide, by decide⟩ h (fun v7 s8 h => ?_)
            exact wr_iret (wg_da dt_X12_look 33 rfl) h
          · refine wr_iload_n (wg_da dt_X12_look 34 rfl) rfl ?_
            refine wr_iconst (5 : Int32) (wg_da dt_X12_look 35 rfl) (by decide) ?_
            refine wr_icmp_ne 66 (wg_da dt_X12_look 36 rfl) (by decide) h (fun h => ?_) (fun h => ?_)
            · refine wr_aload_n (wg_da dt_X12_look 37 rfl) rfl ?_
              refine wr_callVi [] [] (wg_da dt_X12_look 38 rfl) ⟨wq_9_174, wq_9_176, wq_p10_13⟩ hx0 ⟨rfl, by decide⟩ wy_X12_openSet (fun q hq => m_X12_openSet l E x0 hx0 _ q hq) rfl rfl (Nat.le_of_ble_eq_true rfl) ⟨rfl, rfl, by decide, by decide⟩ h (fun v5 s6 h => ?_)
              exact wr_iret (wg_da dt_X12_look 39 rfl) h
            · refine wr_iload_n (wg_da dt_X12_look 40 rfl) rfl ?_
              refine wr_bipush (6 : Int32) (wg_da dt_X12_look 41 rfl) (by decide) ?_
              refine wr_icmp_ne 79 (wg_da dt_X12_look 42 rfl) (by decide) h (fun h => ?_) (fun h => ?_)
              · refine wr_aload_n (wg_da dt_X12_look 43 rfl) rfl ?_
                refine wr_getR wf_X12_7 (wg_da dt_X12_look 44 rfl) hx0 ?_
                refine wr_iconst (2 : Int32) (wg_da dt_X12_look 45 rfl) (by decide) ?_
                refine wr_iald (wg_da dt_X12_look 46 rfl) (wg_ty Sm_ok 12 1 0 hx0 rfl (by decide)).2 h (fun v4 h => ?_)
                exact wr_iret (wg_da dt_X12_look 47 rfl) h
              · refine wr_iload_n (wg_da dt_X12_look 48 rfl) rfl ?_
                refine wr_bipush (7 : Int32) (wg_da dt_X12_look 49 rfl) (by decide) ?_
                refine wr_icmp_ne 92 (wg_da dt_X12_look 50 rfl) (by decide) h (fun h => ?_) (fun h => ?_)
                · refine wr_aload_n (wg_da dt_X12_look 51 rfl) rfl ?_
                  refine wr_getR wf_X12_7 (wg_da dt_X12_look 52 rfl) hx0 ?_
                  refine wr_iconst (1 : Int32) (wg_da dt_X12_look 53 rfl) (by decide) ?_
                  refine wr_iald (wg_da dt_X12_look 54 rfl) (wg_ty Sm_ok 12 1 0 hx0 rfl (by decide)).2 h (fun v3 h => ?_)
                  exact wr_iret (wg_da dt_X12_look 55 rfl) h
                · refine wr_iload_n (wg_da dt_X12_look 56 rfl) rfl ?_
                  refine wr_bipush (8 : Int32) (wg_da dt_X12_look 57 rfl) (by decide) ?_
                  refine wr_icmp_ne 105 (wg_da dt_X12_look 58 rfl) (by decide) h (fun h => ?_) (fun h => ?_)
                  · refine wr_aload_n (wg_da dt_X12_look 59 rfl) rfl ?_
                    refine wr_getR wf_X12_40 (wg_da dt_X12_look 60 rfl) hx0 ?_
                    refine wr_iconst (0 : Int32) (wg_da dt_X12_look 61 rfl) (by decide) ?_
                    refine wr_iald (wg_da dt_X12_look 62 rfl) (wg_ty Sm_ok 12 21 0 hx0 rfl (by decide)).2 h (fun v2 h => ?_)
                    exact wr_iret (wg_da dt_X12_look 63 rfl) h
                  · refine wr_iload_n (wg_da dt_X12_look 64 rfl) rfl ?_
                    refine wr_bipush (9 : Int32) (wg_da dt_X12_look 65 rfl) (by decide) ?_
                    refine wr_icmp_ne 116 (wg_da dt_X12_look 66 rfl) (by decide) h (fun h => ?_) (fun h => ?_)
                    · refine wr_aload_n (wg_da dt_X12_look 67 rfl) rfl ?_
                      refine wr_getI wf_X12_309 (wg_da dt_X12_look 68 rfl) hx0 ?_
                      exact wr_iret (wg_da dt_X12_look 69 rfl) h
                    · refine wr_iload_n (wg_da dt_X12_look 70 rfl) rfl ?_
                      refine wr_bipush (10 : Int32) (wg_da dt_X12_look 71 rfl) (by decide) ?_
                      refine wr_icmp_ne 127 (wg_da dt_X12_look 72 rfl) (by decide) h (fun h => ?_) (fun h => ?_)
                      · refine wr_aload_n (wg_da dt_X12_look 73 rfl) rfl ?_
                        refine wr_getI wf_X12_312 (wg_da dt_X12_look 74 rfl) hx0 ?_
                        exact wr_iret (wg_da dt_X12_look 75 rfl) h
                      · refine wr_iload_n (wg_da dt_X12_look 76 rfl) rfl ?_
                        refine wr_bipush (11 : Int32) (wg_da dt_X12_look 77 rfl) (by decide) ?_
                        refine wr_icmp_ne 138 (wg_da dt_X12_look 78 rfl) (by decide) h (fun h => ?_) (fun h => ?_)
                        · refine wr_aload_n (wg_da dt_X12_look 79 rfl) rfl ?_
                          refine wr_getI wf_X12_306 (wg_da dt_X12_look 80 rfl) hx0 ?_
                          exact wr_iret (wg_da dt_X12_look 81 rfl) h
                        · refine wr_iload_n (wg_da dt_X12_look 82 rfl) rfl ?_
                          refine wr_bipush (12 : Int32) (wg_da dt_X12_look 83 rfl) (by decide) ?_
                          refine wr_icmp_ne 151 (wg_da dt_X12_look 84 rfl) (by decide) h (fun h => ?_) (fun h => ?_)
                          · refine wr_aload_n (wg_da dt_X12_look 85 rfl) rfl ?_
                            refine wr_getI wf_X12_116 (wg_da dt_X12_look 86 rfl) hx0 ?_
                            refine wr_goto 152 (wg_da dt_X12_look 87 rfl) (by decide) ?_
                            exact wr_iret (wg_da dt_X12_look 89 rfl) h
                          · refine wr_iconst (-1 : Int32) (wg_da dt_X12_look 88 rfl) (by decide) ?_
                            exact wr_iret (wg_da dt_X12_look 89 rfl) h
theorem m_X12_look (l : Launch) (E : wg_E) (x0 : Nat) (x1 : Int32) (hx0 : wg_t Sm x0 = 14) (σ : wg_M) (q : Int32 × wg_M) (h : f_X12_look x0 x1 σ = some q) : wg_MG l E Sm yX12_look cX12_look 2 (some .int) rm_X12_look [.ref x0, .int x1] σ (some q.1) q.2 :=
  wg_met [.ref x0, .int x1] (plainFor_of_name (by decide)) (Nat.le_of_ble_eq_true rfl) (g_X12_look_e l E x0 x1 σ q hx0 h)

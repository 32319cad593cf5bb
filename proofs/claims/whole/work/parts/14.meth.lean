abbrev rm_X9_add : Room := { frames := 0, cells := 0, slots := 0, locals := 0 }
def tb_X9_add : List (Nat × Instr × Nat) := [(0, .aload_n 0, 1), (1, .getfield 40, 3), (4, .bipush 8, 2), (6, .if_icmp .lt 5, 3), (9, .iconst (-1), 1), (10, .ireturn, 1), (11, .aload_n 0, 1), (12, .getfield 9, 3), (15, .aload_n 0, 1), (16, .getfield 40, 3), (19, .iload_n 1, 1), (20, .iastore, 1), (21, .aload_n 0, 1), (22, .getfield 15, 3), (25, .aload_n 0, 1), (26, .getfield 40, 3), (29, .iload_n 2, 1), (30, .iastore, 1), (31, .aload_n 0, 1), (32, .getfield 18, 3), (35, .aload_n 0, 1), (36, .getfield 40, 3), (39, .iconst 0, 1), (40, .iastore, 1), (41, .aload_n 0, 1), (42, .getfield 21, 3), (45, .aload_n 0, 1), (46, .getfield 40, 3), (49, .iconst 0, 1), (50, .iastore, 1), (51, .aload_n 0, 1), (52, .getfield 24, 3), (55, .aload_n 0, 1), (56, .getfield 40, 3), (59, .iconst 0, 1), (60, .iastore, 1), (61, .aload_n 0, 1), (62, .dup, 1), (63, .getfield 40, 3), (66, .iconst 1, 1), (67, .iadd, 1), (68, .putfield 40, 3), (71, .aload_n 0, 1), (72, .getfield 40, 3), (75, .iconst 1, 1), (76, .isub, 1), (77, .ireturn, 1)]
theorem dt_X9_add : wg_dc cX9_add tb_X9_add := by unfold wg_dc; decide +kernel
def f_X9_add  (x0 : Nat) (x1 : Int32) (x2 : Int32) (σ : wg_M) : Option (Int32 × wg_M) := if (σ x0 8) < (8 : Int32) then (wg_sa (wg_n Sc (wg_r Sc x0 0)) σ (wg_r Sc x0 0) (σ x0 8) x1 (fun s1 => wg_sa (wg_n Sc (wg_r Sc x0 1)) s1 (wg_r Sc x0 1) (s1 x0 8) x2 (fun s2 => wg_sa (wg_n Sc (wg_r Sc x0 2)) s2 (wg_r Sc x0 2) (s2 x0 8) (0 : Int32) (fun s3 => wg_sa (wg_n Sc (wg_r Sc x0 3)) s3 (wg_r Sc x0 3) (s3 x0 8) (0 : Int32) (fun s4 => wg_sa (wg_n Sc (wg_r Sc x0 4)) s4 (wg_r Sc x0 4) (s4 x0 8) (0 : Int32) (fun s5 => wg_st s5 x0 8 ((s5 x0 8) + (1 : Int32)) (fun s6 => some ((s6 x0 8) - (1 : Int32), s6)))))))) else (some ((-1 : Int32), σ))
set_option maxRecDepth 20000 in
theorem g_X9_add_e (l : Launch) (E : wg_E)  (x0 : Nat) (x1 : Int32) (x2 : Int32) (σ : wg_M) (z : Int32 × wg_M) (hx0 : wg_t Sc x0 = 11) (h : f_X9_add  x0 x1 x2 σ = some z) : wg_G l E Sc "WornWigs$Wigs" cX9_add 3 (some .int) rm_X9_add (some z.1) z.2 0 [some (.ref x0), some (.int x1), some (.int x2)] [] σ := by
  refine wr_aload_n (wg_da dt_X9_add 0 rfl) rfl ?_
  refine wr_getI wf_X9_40 (wg_da dt_X9_add 1 rfl) hx0 ?_
  refine wr_bipush (8 : Int32) (wg_da dt_X9_add 2 rfl) (by decide) ?_
  refine wr_icmp_lt 11 (wg_da dt_X9_add 3 rfl) (by decide) h (fun h => ?_) (fun h => ?_)
  · refine wr_aload_n (wg_da dt_X9_add 6 rfl) rfl ?_
    refine wr_getR wf_X9_9 (wg_da dt_X9_add 7 rfl) hx0 ?_
    refine wr_aload_n (wg_da dt_X9_add 8 rfl) rfl ?_
    refine wr_getI wf_X9_40 (wg_da dt_X9_add 9 rfl) hx0 ?_
    refine wr_iload_n (wg_da dt_X9_add 10 rfl) rfl ?_
    refine wr_iast (wg_da dt_X9_add 11 rfl) (wg_ty Sc_ok 9 0 0 hx0 rfl (by decide)).2 h (fun s1 h => ?_)
    refine wr_aload_n (wg_da dt_X9_add 12 rfl) rfl ?_
    refine wr_getR wf_X9_15 (wg_da dt_X9_add 13 rfl) hx0 ?_
    refine wr_aload_n (wg_da dt_X9_add 14 rfl) rfl ?_
    refine wr_getI wf_X9_40 (wg_da dt_X9_add 15 rfl) hx0 ?_
    refine wr_iload_n (wg_da dt_X9_add 16 rfl) rfl ?_
    refine wr_iast (wg_da dt_X9_add 17 rfl) (wg_ty Sc_ok 9 1 0 hx0 rfl (by decide)).2 h (fun s2 h => ?_)
    refine wr_aload_n (wg_da dt_X9_add 18 rfl) rfl ?_
    refine wr_getR wf_X9_18 (wg_da dt_X9_add 19 rfl) hx0 ?_
    refine wr_aload_n (wg_da dt_X9_add 20 rfl) rfl ?_
    refine wr_getI wf_X9_40 (wg_da dt_X9_add 21 rfl) hx0 ?_
    refine wr_iconst (0 : Int32) (wg_da dt_X9_add 22 rfl) (by decide) ?_
    refine wr_iast (wg_da dt_X9_add 23 rfl) (wg_ty Sc_ok 9 2 0 hx0 rfl (by decide)).2 h (fun s3 h => ?_)
    refine wr_aload_n (wg_da dt_X9_add 24 rfl) rfl ?_
    refine wr_getR wf_X9_21 (wg_da dt_X9_add 25 rfl) hx0 ?_
    refine wr_aload_n (wg_da dt_X9_add 26 rfl) rfl ?_
    refine wr_getI wf_X9_40 (wg_da dt_X9_add 27 rfl) hx0 ?_
    refine wr_iconst (0 : Int32) (wg_da dt_X9_add 28 rfl) (by decide) ?_
    refine wr_iast (wg_da dt_X9_add 29 rfl) (wg_ty Sc_ok 9 3 0 hx0 rfl (by decide)).2 h (fun s4 h => ?_)
    refine wr_aload_n (wg_da dt_X9_add 30 rfl) rfl ?_
    refine wr_getR wf_X9_24 (wg_da dt_X9_add 31 rfl) hx0 ?_
    refine wr_aload_n (wg_da dt_X9_add 32 rfl) rfl ?_
    refine wr_getI wf_X9_40 (wg_da dt_X9_add 33 rfl) hx0 ?_
    refine wr_iconst (0 : Int32) (wg_da dt_X9_add 34 rfl) (by decide) ?_
    refine wr_iast (wg_da dt_X9_add 35 rfl) (wg_ty Sc_ok 9 4 0 hx0 rfl (by decide)).2 h (fun s5 h => ?_)
    refine wr_aload_n (wg_da dt_X9_add 36 rfl) rfl ?_
    refine wr_dup (wg_da dt_X9_add 37 rfl) ?_
    refine wr_getI wf_X9_40 (wg_da dt_X9_add 38 rfl) hx0 ?_
    refine wr_iconst (1 : Int32) (wg_da dt_X9_add 39 rfl) (by decide) ?_
    refine wr_iadd (wg_da dt_X9_add 40 rfl) ?_
    refine wr_putI wfp_X9_40 (wg_da dt_X9_add 41 rfl) hx0 h (fun s6 h => ?_)
    refine wr_aload_n (wg_da dt_X9_add 42 rfl) rfl ?_
    refine wr_getI wf_X9_40 (wg_da dt_X9_add 43 rfl) hx0 ?_
    refine wr_iconst (1 : Int32) (wg_da dt_X9_add 44 rfl) (by decide) ?_
    refine wr_isub (wg_da dt_X9_add 45 rfl) ?_
    exact wr_iret (wg_da dt_X9_add 46 rfl) h
  · refine wr_iconst (-1 : Int32) (wg_da dt_X9_add 4 rfl) (by decide) ?_
    exact wr_iret (wg_da dt_X9_add 5 rfl) h
theorem m_X9_add (l : Launch) (E : wg_E) (x0 : Nat) (x1 : Int32) (x2 : Int32) (hx0 : wg_t Sc x0 = 11) (σ : wg_M) (q : Int32 × wg_M) (h : f_X9_add x0 x1 x2 σ = some q) : wg_MG l E Sc yX9_add cX9_add 3 (some .int) rm_X9_add [.ref x0, .int x1, .int x2] σ (some q.1) q.2 :=
  wg_met [.ref x0, .int x1, .int x2] (plainFor_of_name (by decide)) (Nat.le_of_ble_eq_true rfl) (g_X9_add_e l E x0 x1 x2 σ q hx0 h)
abbrev rm_X9_toComb : Room := { frames := 1, cells := 0, slots := 0, locals := 26 }
def tb_X9_toComb : List (Nat × Instr × Nat) := [(0, .iconst 0, 1), (1, .istore_n 2, 1), (2, .iconst 0, 1), (3, .istore_n 3, 1), (4, .iload_n 3, 1), (5, .bipush 8, 2), (7, .if_icmp .ge 79, 3), (10, .aload_n 0, 1), (11, .iload_n 1, 1), (12, .iload_n 3, 1), (13, .iconst 0, 1), (14, .invokevirtual 60, 3), (17, .istore 4, 2), (19, .aload_n 0, 1), (20, .iload_n 1, 1), (21, .iload_n 3, 1), (22, .iconst 1, 1), (23, .invokevirtual 60, 3), (26, .istore 5, 2), (28, .iload 4, 2), (30, .invokestatic 64, 3), (33, .iload 5, 2), (35, .invokestatic 64, 3), (38, .isub, 1), (39, .istore 6, 2), (41, .iload 6, 2), (43, .ifCond .lt 15, 3), (46, .iload 6, 2), (48, .ifCond .ne 14, 3), (51, .iload 4, 2), (53, .iload 5, 2), (55, .if_icmp .ge 7, 3), (58, .iconst 1, 1), (59, .goto 4, 3), (62, .iconst 0, 1), (63, .istore 7, 2), (65, .iload_n 2, 1), (66, .iload 7, 2), (68, .ifCond .eq 8, 3), (71, .iload 4, 2), (73, .goto 5, 3), (76, .iload 5, 2), (78, .ior, 1), (79, .istore_n 2, 1), (80, .iinc 3 1, 3), (83, .goto (-79), 3), (86, .iload_n 2, 1), (87, .ireturn, 1)]
theorem dt_X9_toComb : wg_dc cX9_toComb tb_X9_toComb := by unfold wg_dc; decide +kernel
def f_X9_toComb_78 (k4 : Nat → Int32 → Int32 → Int32 → wg_M → Option (Int32 × wg_M)) (x0 : Nat) (x1 : Int32) (x3 : Int32) (t0 : Int32) (t1 : Int32) (σ : wg_M) : Option (Int32 × wg_M) := wg_let (t1 ||| t0) (fun v1 => wg_let (x3 + (1 : Int32)) (fun v2 => k4 x0 x1 v1 v2 σ))
def f_X9_toComb_63 (k4 : Nat → Int32 → Int32 → Int32 → wg_M → Option (Int32 × wg_M)) (x0 : Nat) (x1 : Int32) (x2 : Int32) (x3 : Int32) (x4 : Int32) (x5 : Int32) (t0 : Int32) (σ : wg_M) : Option (Int32 × wg_M) := if t0 = 0 then (f_X9_toComb_78 k4 x0 x1 x3 x5 x2 σ) else (f_X9_toComb_78 k4 x0 x1 x3 x4 x2 σ)
def f_X9_toComb_58 (k4 : Nat → Int32 → Int32 → Int32 → wg_M → Option (Int32 × wg_M)) (x0 : Nat) (x1 : Int32) (x2 : Int32) (x3 : Int32) (x4 : Int32) (x5 : Int32) (σ : wg_M) : Option (Int32 × wg_M) := f_X9_toComb_63 k4 x0 x1 x2 x3 x4 x5 (1 : Int32) σ
def f_X9_toComb_62 (k4 : Nat → Int32 → Int32 → Int32 → wg_M → Option (Int32 × wg_M)) (x0 : Nat) (x1 : Int32) (x2 : Int32) (x3 : Int32) (x4 : Int32) (x5 : Int32) (σ : wg_M) : Option (Int32 × wg_M) := f_X9_toComb_63 k4 x0 x1 x2 x3 x4 x5 (0 : Int32) σ
def f_X9_toComb_4  : Nat → Nat → Int32 → Int32 → Int32 → wg_M → Option (Int32 × wg_M)
  | 0, _, _, _, _, _ => none
  | n + 1, x0, x1, x2, x3, σ => if (8 : Int32) ≤ x3 then (some (x2, σ)) else (wg_bd (f_X9_rulesFor x0 x1 x3 (0 : Int32) σ) (fun v1 s2 => wg_bd (f_X9_rulesFor x0 x1 x3 (1 : Int32) s2) (fun v3 s4 => wg_bd (f_J6_bitCount_0f7a4 v1 s4) (fun v5 s6 => wg_bd (f_J6_bitCount_0f7a4 v3 s6) (fun v7 s8 => wg_let (v5 - v7) (fun v9 => if v9 < 0 then (f_X9_toComb_58 (f_X9_toComb_4  n) x0 x1 x2 x3 v1 v3 s8) else (if v9 = 0 then (if v3 ≤ v1 then (f_X9_toComb_62 (f_X9_toComb_4  n) x0 x1 x2 x3 v1 v3 s8) else (f_X9_toComb_58 (f_X9_toComb_4  n) x0 x1 x2 x3 v1 v3 s8)) else (f_X9_toComb_62 (f_X9_toComb_4  n) x0 x1 x2 x3 v1 v3 s8))))))))
def f_X9_toComb  (x0 : Nat) (x1 : Int32) (σ : wg_M) : Option (Int32 × wg_M) := f_X9_toComb_4  wg_N x0 x1 (0 : Int32) (0 : Int32) σ
set_option maxRecDepth 20000 in
theorem g_X9_toComb_78 (l : Launch) (E : wg_E) (k4 : Nat → Int32 → Int32 → Int32 → wg_M → Option (Int32 × wg_M)) (x0 : Nat) (x1 : Int32) (x3 : Int32) (t0 : Int32) (t1 : Int32) (σ : wg_M) (z : Int32 × wg_M) (hx0 : wg_t Sc x0 = 11) (hk4 : ∀ (x0 : Nat) (x1 : Int32) (x2 : Int32) (x3 : Int32) (σ : wg_M), wg_t Sc x0 = 11 → k4 x0 x1 x2 x3 σ = some z → wg_G l E Sc "WornWigs$Wigs" cX9_toComb 8 (some .int) rm_X9_toComb (some z.1) z.2 4 [some (.ref x0), some (.int x1), some (.int x2), some (.int x3), none, none, none, none] [] σ) (h : f_X9_toComb_78 k4 x0 x1 x3 t0 t1 σ = some z) : wg_G l E Sc "WornWigs$Wigs" cX9_toComb 8 (some .int) rm_X9_toComb (some z.1) z.2 78 [some (.ref x0), some (.int x1), none, some (.int x3), none, none, none, none] [.int t0, .int t1] σ := by
  refine wr_ior (wg_da dt_X9_toComb 42 rfl) ?_
  refine wr_let h (fun v1 h => ?_)
  refine wr_istore_n (wg_da dt_X9_toComb 43 rfl) (by decide) ?_
  refine wr_iinc (c0 := (1 : Int32)) (wg_da dt_X9_toComb 44 rfl) rfl (by decide) (by decide) h (fun v2 h => ?_)
  refine wr_goto 4 (wg_da dt_X9_toComb 45 rfl) (by decide) ?_
  exact wr_wk [true, true, true, true, false, false, false, false] (hk4 x0 x1 v1 v2 σ hx0 h)
set_option maxRecDepth 20000 in
theorem g_X9_toComb_63 (l : Launch) (E : wg_E) (k4 : Nat → Int32 → Int32 → Int32 → wg_M → Option (Int32 × wg_M)) (x0 : Nat) (x1 : Int32) (x2 : Int32) (x3 : Int32) (x4 : Int32) (x5 : Int32) (t0 : Int32) (σ : wg_M) (z : Int32 × wg_M) (hx0 : wg_t Sc x0 = 11) (hk4 : ∀ (x0 : Nat) (x1 : Int32) (x2 : Int32) (x3 : Int32) (σ : wg_M), wg_t Sc x0 = 11 → k4 x0 x1 x2 x3 σ = some z → wg_G l E Sc "WornWigs$Wigs" cX9_toComb 8 (some .int) rm_X9_toComb (some z.1) z.2 4 [some (.ref x0), some (.int x1), some (.int x2), some (.int x3), none, none, none, none] [] σ) (h : f_X9_toComb_63 k4 x0 x1 x2 x3 x4 x5 t0 σ = some z) : wg_G l E Sc "WornWigs$Wigs" cX9_toComb 8 (some .int) rm_X9_toComb (some z.1) z.2 63 [some (.ref x0), some (.int x1), some (.int x2), some (.int x3), some (.int x4), some (.int x5), none, none] [.int t0] σ := by
  refine wr_istore (wg_da dt_X9_toComb 35 rfl) (by decide) ?_
  refine wr_iload_n (wg_da dt_X9_toComb 36 rfl) rfl ?_
  refine wr_iload (wg_da dt_X9_toComb 37 rfl) rfl ?_
  refine wr_if_eq 76 (wg_da dt_X9_toComb 38 rfl) (by decide) h (fun h => ?_) (fun h => ?_)
  · refine wr_iload (wg_da dt_X9_toComb 41 rfl) rfl ?_
    exact wr_wk [true, true, false, true, false, false, false, false] (g_X9_toComb_78 l E k4 x0 x1 x3 x5 x2 σ _ hx0 hk4 h)
  · refine wr_iload (wg_da dt_X9_toComb 39 rfl) rfl ?_
    refine wr_goto 78 (wg_da dt_X9_toComb 40 rfl) (by decide) ?_
    exact wr_wk [true, true, false, true, false, false, false, false] (g_X9_toComb_78 l E k4 x0 x1 x3 x4 x2 σ _ hx0 hk4 h)
set_option maxRecDepth 20000 in
theorem g_X9_toComb_58 (l : Launch) (E : wg_E) (k4 : Nat → Int32 → Int32 → Int32 → wg_M → Option (Int32 × wg_M)) (x0 : Nat) (x1 : Int32) (x2 : Int32) (x3 : Int32) (x4 : Int32) (x5 : Int32) (σ : wg_M) (z : Int32 × wg_M) (hx0 : wg_t Sc x0 = 11) (hk4 : ∀ (x0 : Nat) (x1 : Int32) (x2 : Int32) (x3 : Int32) (σ : wg_M), wg_t Sc x0 = 11 → k4 x0 x1 x2 x3 σ = some z → wg_G l E Sc "WornWigs$Wigs" cX9_toComb 8 (some .int) rm_X9_toComb (some z.1) z.2 4 [some (.ref x0), some (.int x1), some (.int x2), some (.int x3), none, none, none, none] [] σ) (h : f_X9_toComb_58 k4 x0 x1 x2 x3 x4 x5 σ = some z) : wg_G l E Sc "WornWigs$Wigs" cX9_toComb 8 (some .int) rm_X9_toComb (some z.1) z.2 58 [some (.ref x0), some (.int x1), some (.int x2), some (.int x3), some (.int x4), some (.int x5), none, none] [] σ := by
  refine wr_iconst (1 : Int32) (wg_da dt_X9_toComb 32 rfl) (by decide) ?_
  refine wr_goto 63 (wg_da dt_X9_toComb 33 rfl) (by decide) ?_
  exact wr_wk [true, true, true, true, true, true, false, false] (g_X9_toComb_63 l E k4 x0 x1 x2 x3 x4 x5 (1 : Int32) σ _ hx0 hk4 h)
set_option maxRecDepth 20000 in
theorem g_X9_toComb_62 (l : Launch) (E : wg_E) (k4 : Nat → Int32 → Int32 → Int32 → wg_M → Option (Int32 × wg_M)) (x0 : Nat) (x1 : Int32) (x2 : Int32) (x3 : Int32) (x4 : Int32) (x5 : Int32) (σ : wg_M) (z : Int32 × wg_M) (hx0 : wg_t Sc x0 = 11) (hk4 : ∀ (x0 : Nat) (x1 : Int32) (x2 : Int32) (x3 : Int32) (σ : wg_M), wg_t Sc x0 = 11 → k4 x0 x1 x2 x3 σ = some z → wg_G l E Sc "WornWigs$Wigs" cX9_toComb 8 (some .int) rm_X9_toComb (some z.1) z.2 4 [some (.ref x0), some (.int x1), some (.int x2), some (.int x3), none, none, none, none] [] σ) (h : f_X9_toComb_62 k4 x0 x1 x2 x3 x4 x5 σ = some z) : wg_G l E Sc "WornWigs$Wigs" cX9_toComb 8 (some .int) rm_X9_toComb (some z.1) z.2 62 [some (.ref x0), some (.int x1), some (.int x2), some (.int x3), some (.int x4), some (.int x5), none, none] [] σ := by
  refine wr_iconst (0 : Int32) (wg_da dt_X9_toComb 34 rfl) (by decide) ?_
  exact wr_wk [true, true, true, true, true, true, false, false] (g_X9_toComb_63 l E k4 x0 x1 x2 x3 x4 x5 (0 : Int32) σ _ hx0 hk4 h)
set_option maxRecDepth 20000 in
theorem g_X9_toComb_4 (l : Launch) (E : wg_E)  (z : Int32 × wg_M) : ∀ (n : Nat) (x0 : Nat) (x1 : Int32) (x2 : Int32) (x3 : Int32) (σ : wg_M) (hx0 : wg_t Sc x0 = 11) (h : f_X9_toComb_4  n x0 x1 x2 x3 σ = some z), wg_G l E Sc "WornWigs$Wigs" cX9_toComb 8 (some .int) rm_X9_toComb (some z.1) z.2 4 [some (.ref x0), some (.int x1), some (.int x2), some (.int x3), none, none, none, none] [] σ := by
  intro n
  induction n with
  | zero => intro x0 x1 x2 x3 σ hx0 h; cases h
  | succ n ih =>
    intro x0 x1 x2 x3 σ hx0 h
    refine wr_iload_n (wg_da dt_X9_toComb 4 rfl) rfl ?_
    refine wr_bipush (8 : Int32) (wg_da dt_X9_toComb 5 rfl) (by decide) ?_
    refine wr_icmp_ge 86 (wg_da dt_X9_toComb 6 rfl) (by decide) h (fun h => ?_) (fun h => ?_)
    · refine wr_iload_n (wg_da dt_X9_toComb 46 rfl) rfl ?_
      exact wr_iret (wg_da dt_X9_toComb 47 rfl) h
    · refine wr_aload_n (wg_da dt_X9_toComb 7 rfl) rfl ?_
      refine wr_iload_n (wg_da dt_X9_toComb 8 rfl) rfl ?_
      refine wr_iload_n (wg_da dt_X9_toComb 9 rfl) rfl ?_
      refine wr_iconst (0 : Int32) (wg_da dt_X9_toComb 10 rfl) (by decide) ?_
      refine wr_callVi [.int x1, .int x3, .int (0 : Int32)] [] (wg_da dt_X9_toComb 11 rfl) ⟨wq_3_87, wq_3_89, wq_p1_1⟩ hx0 ⟨rfl, by decide⟩ wy_X9_rulesFor (fun q hq => m_X9_rulesFor l E x0 x1 x3 (0 : Int32) hx0 _ q hq) rfl rfl (Nat.le_of_ble_eq_true rfl) ⟨rfl, rfl, by decide, by decide⟩ h (fun v1 s2 h => ?_)
      refine wr_istore (wg_da dt_X9_toComb 12 rfl) (by decide) ?_
      refine wr_aload_n (wg_da dt_X9_toComb 13 rfl) rfl ?_
      refine wr_iload_n (wg_da dt_X9_toComb 14 rfl) rfl ?_
      refine wr_iload_n (wg_da dt_X9_toComb 15 rfl) rfl ?_
      refine wr_iconst (1 : Int32) (wg_da dt_X9_toComb 16 rfl) (by decide) ?_
      refine wr_callVi [.int x1, .int x3, .int (1 : Int32)] [] (wg_da dt_X9_toComb 17 rfl) ⟨wq_3_87, wq_3_89, wq_p1_1⟩ hx0 ⟨rfl, by decide⟩ wy_X9_rulesFor (fun q hq => m_X9_rulesFor l E x0 x1 x3 (1 : Int32) hx0 _ q hq) rfl rfl (Nat.le_of_ble_eq_true rfl) ⟨rfl, rfl, by decide, by decide⟩ h (fun v3 s4 h => ?_)
      refine wr_istore (wg_da dt_X9_toComb 18 rfl) (by decide) ?_
      refine wr_iload (wg_da dt_X9_toComb 19 rfl) rfl ?_
      refine wr_callSi [.int v1] [] (wg_da dt_X9_toComb 20 rfl) ⟨wq_3_91, wq_3_92⟩ wy_J6_bitCount_0f7a4 (fun q hq => m_J6_bitCount_0f7a4 l E v1  _ q hq) rfl rfl (Nat.le_of_ble_eq_true rfl) ⟨rfl, rfl, by decide, by decide⟩ h (fun v5 s6 h => ?_)
      refine wr_iload (wg_da dt_X9_toComb 21 rfl) rfl ?_
      refine wr_callSi [.int v3] [.int v5] (wg_da dt_X9_toComb 22 rfl) ⟨wq_3_91, wq_3_92⟩ wy_J6_bitCount_0f7a4 (fun q hq => m_J6_bitCount_0f7a4 l E v3  _ q hq) rfl rfl (Nat.le_of_ble_eq_true rfl) ⟨rfl, rfl, by decide, by decide⟩ h (fun v7 s8 h => ?_)
      refine wr_isub (wg_da dt_X9_toComb 23 rfl) ?_
      refine wr_let h (fun v9 h => ?_)
      refine wr_istore (wg_da dt_X9_toComb 24 rfl) (by decide) ?_
      refine wr_iload (wg_da dt_X9_toComb 25 rfl) rfl ?_
      refine wr_if_lt 58 (wg_da dt_X9_toComb 26 rfl) (by decide) h (fun h => ?_) (fun h => ?_)
      · exact wr_wk [true, true, true, true, true, true, false, false] (g_X9_toComb_58 l E (f_X9_toComb_4  n) x0 x1 x2 x3 v1 v3 s8 _ hx0 (fun x0 x1 x2 x3 σ hx0 h => ih x0 x1 x2 x3 σ hx0 h) h)
      · refine wr_iload (wg_da dt_X9_toComb 27 rfl) rfl ?_
        refine wr_if_ne 62 (wg_da dt_X9_toComb 28 rfl) (by decide) h (fun h => ?_) (fun h => ?_)
        · refine wr_iload (wg_da dt_X9_toComb 29 rfl) rfl ?_
          refine wr_iload (wg_da dt_X9_toComb 30 rfl) rfl ?_
          refine wr_icmp_ge 62 (wg_da dt_X9_toComb 31 rfl) (by decide) h (fun h => ?_) (fun h => ?_)
          · exact wr_wk [true, true, true, true, true, true, false, false] (g_X9_toComb_62 l E (f_X9_toComb_4  n) x0 x1 x2 x3 v1 v3 s8 _ hx0 (fun x0 x1 x2 x3 σ hx0 h => ih x0 x1 x2 x3 σ hx0 h) h)
          · exact wr_wk [true, true, true, true, true, true, false, false] (g_X9_toComb_58 l E (f_X9_toComb_4  n) x0 x1 x2 x3 v1 v3 s8 _ hx0 (fun x0 x1 x2 x3 σ hx0 h => ih x0 x1 x2 x3 σ hx0 h) h)
        · exact wr_wk [true, true, true, true, true, true, false, false] (g_X9_toComb_62 l E (f_X9_toComb_4  n) x0 x1 x2 x3 v1 v3 s8 _ hx0 (fun x0 x1 x2 x3 σ hx0 h => ih x0 x1 x2 x3 σ hx0 h) h)
set_option maxRecDepth 20000 in
theorem g_X9_toComb_e (l : Launch) (E : wg_E)  (x0 : Nat) (x1 : Int32) (σ : wg_M) (z : Int32 × wg_M) (hx0 : wg_t Sc x0 = 11) (h : f_X9_toComb  x0 x1 σ = some z) : wg_G l E Sc "WornWigs$Wigs" cX9_toComb 8 (some .int) rm_X9_toComb (some z.1) z.2 0 [some (.ref x0), some (.int x1), none, none, none, none, none, none] [] σ := by
  refine wr_iconst (0 : Int32) (wg_da dt_X9_toComb 0 rfl) (by decide) ?_
  refine wr_istore_n (wg_da dt_X9_toComb 1 rfl) (by decide) ?_
  refine wr_iconst (0 : Int32) (wg_da dt_X9_toComb 2 rfl) (by decide) ?_
  refine wr_istore_n (wg_da dt_X9_toComb 3 rfl) (by decide) ?_
  exact wr_wk [true, true, true, true, false, false, false, false] (g_X9_toComb_4 l E  _  wg_N x0 x1 (0 : Int32) (0 : Int32) σ hx0 h)
theorem m_X9_toComb (l : Launch) (E : wg_E) (x0 : Nat) (x1 : Int32) (hx0 : wg_t Sc x0 = 11) (σ : wg_M) (q : Int32 × wg_M) (h : f_X9_toComb x0 x1 σ = some q) : wg_MG l E Sc yX9_toComb cX9_toComb 8 (some .int) rm_X9_toComb [.ref x0, .int x1] σ (some q.1) q.2 :=
  wg_met [.ref x0, .int x1] (plainFor_of_name (by decide)) (Nat.le_of_ble_eq_true rfl) (g_X9_toComb_e l E x0 x1 σ q hx0 h)
abbrev rm_X9_rulingsOn : Room := { frames := 0, cells := 0, slots := 0, locals := 0 }
def tb_X9_rulingsOn : List (Nat × Instr × Nat) := [(0, .iconst 0, 1), (1, .istore_n 3, 1), (2, .iconst 0, 1), (3, .istore 4, 2), (5, .iload 4, 2), (7, .aload_n 0, 1), (8, .getfield 24, 3), (11, .iload_n 1, 1), (12, .iaload, 1), (13, .if_icmp .ge 40, 3), (16, .aload_n 0, 1), (17, .getfield 27, 3), (20, .iload_n 1, 1), (21, .bipush 8, 2), (23, .imul, 1), (24, .iload 4, 2), (26, .iadd, 1), (27, .iaload, 1), (28, .iload_n 2, 1), (29, .if_icmp .ne 18, 3), (32, .iload_n 3, 1), (33, .aload_n 0, 1), (34, .getfield 30, 3), (37, .iload_n 1, 1), (38, .bipush 8, 2), (40, .imul, 1), (41, .iload 4, 2), (43, .iadd, 1), (44, .iaload, 1), (45, .iadd, 1), (46, .istore_n 3, 1), (47, .iinc 4 1, 3), (50, .goto (-45), 3), (53, .iload_n 3, 1), (54, .ireturn, 1)]
theorem dt_X9_rulingsOn : wg_dc cX9_rulingsOn tb_X9_rulingsOn := by unfold wg_dc; decide +kernel
def f_X9_rulingsOn_47 (k5 : Nat → Int32 → Int32 → Int32 → Int32 → wg_M → Option (Int32 × wg_M)) (x0 : Nat) (x1 : Int32) (x2 : Int32) (x3 : Int32) (x4 : Int32) (σ : wg_M) : Option (Int32 × wg_M) := wg_let (x4 + (1 : Int32)) (fun v1 => k5 x0 x1 x2 x3 v1 σ)
def f_X9_rulingsOn_5  : Nat → Nat → Int32 → Int32 → Int32 → Int32 → wg_M → Option (Int32 × wg_M)
  | 0, _, _, _, _, _, _ => none
  | n + 1, x0, x1, x2, x3, x4, σ => wg_ga (wg_n Sc (wg_r Sc x0 4)) (σ (wg_r Sc x0 4)) x1 (fun v1 => if v1 ≤ x4 then (some (x3, σ)) else (wg_ga (wg_n Sc (wg_r Sc x0 5)) (σ (wg_r Sc x0 5)) ((x1 * (8 : Int32)) + x4) (fun v2 => if v2 = x2 then (wg_ga (wg_n Sc (wg_r Sc x0 6)) (σ (wg_r Sc x0 6)) ((x1 * (8 : Int32)) + x4) (fun v3 => wg_let (x3 + v3) (fun v4 => f_X9_rulingsOn_47 (f_X9_rulingsOn_5  n) x0 x1 x2 v4 x4 σ))) else (f_X9_rulingsOn_47 (f_X9_rulingsOn_5  n) x0 x1 x2 x3 x4 σ))))
def f_X9_rulingsOn  (x0 : Nat) (x1 : Int32) (x2 : Int32) (σ : wg_M) : Option (Int32 × wg_M) := f_X9_rulingsOn_5  wg_N x0 x1 x2 (0 : Int32) (0 : Int32) σ
set_option maxRecDepth 20000 in
theorem g_X9_rulingsOn_47 (l : Launch) (E : wg_E) (k5 : Nat → Int32 → Int32 → Int32 → Int32 → wg_M → Option (Int32 × wg_M)) (x0 : Nat) (x1 : Int32) (x2 : Int32) (x3 : Int32) (x4 : Int32) (σ : wg_M) (z : Int32 × wg_M) (hx0 : wg_t Sc x0 = 11) (hk5 : ∀ (x0 : Nat) (x1 : Int32) (x2 : Int32) (x3 : Int32) (x4 : Int32) (σ : wg_M), wg_t Sc x0 = 11 → k5 x0 x1 x2 x3 x4 σ = some z → wg_G l E Sc "WornWigs$Wigs" cX9_rulingsOn 5 (some .int) rm_X9_rulingsOn (some z.1) z.2 5 [some (.ref x0), some (.int x1), some (.int x2), some (.int x3), some (.int x4)] [] σ) (h : f_X9_rulingsOn_47 k5 x0 x1 x2 x3 x4 σ = some z) : wg_G l E Sc "WornWigs$Wigs" cX9_rulingsOn 5 (some .int) rm_X9_rulingsOn (some z.1) z.2 47 [some (.ref x0), some (.int x1), some (.int x2), some (.int x3), some (.int x4)] [] σ := by
  refine wr_iinc (c0 := (1 : Int32)) (wg_da dt_X9_rulingsOn 31 rfl) rfl (by decide) (by decide) h (fun v1 h => ?_)
  refine wr_goto 5 (wg_da dt_X9_rulingsOn 32 rfl) (by decide) ?_
  exact wr_wk [true, true, true, true, true] (hk5 x0 x1 x2 x3 v1 σ hx0 h)
set_option maxRecDepth 20000 in
theorem g_X9_rulingsOn_5 (l : Launch) (E : wg_E)  (z : Int32 × wg_M) : ∀ (n : Nat) (x0 : Nat) (x1 : Int32) (x2 : Int32) (x3 : Int32) (x4 : Int32) (σ : wg_M) (hx0 : wg_t Sc x0 = 11) (h : f_X9_rulingsOn_5  n x0 x1 x2 x3 x4 σ = some z), wg_G l E Sc "WornWigs$Wigs" cX9_rulingsOn 5 (some .int) rm_X9_rulingsOn (some z.1) z.2 5 [some (.ref x0), some (.int x1), some (.int x2), some (.int x3), some (.int x4)] [] σ := by
  intro n
  induction n with
  | zero => intro x0 x1 x2 x3 x4 σ hx0 h; cases h
  | succ n ih =>
    intro x0 x1 x2 x3 x4 σ hx0 h
    refine wr_iload (wg_da dt_X9_rulingsOn 4 rfl) rfl ?_
    refine wr_aload_n (wg_da dt_X9_rulingsOn 5 rfl) rfl ?_
    refine wr_getR wf_X9_24 (wg_da dt_X9_rulingsOn 6 rfl) hx0 ?_
    refine wr_iload_n (wg_da dt_X9_rulingsOn 7 rfl) rfl ?_
    refine wr_iald (wg_da dt_X9_rulingsOn 8 rfl) (wg_ty Sc_ok 9 4 0 hx0 rfl (by decide)).2 h (fun v1 h => ?_)
    refine wr_icmp_ge 53 (wg_da dt_X9_rulingsOn 9 rfl) (by decide) h (fun h => ?_) (fun h => ?_)
    · refine wr_iload_n (wg_da dt_X9_rulingsOn 33 rfl) rfl ?_
      exact wr_iret (wg_da dt_X9_rulingsOn 34 rfl) h
    · refine wr_aload_n (wg_da dt_X9_rulingsOn 10 rfl) rfl ?_
      refine wr_getR wf_X9_27 (wg_da dt_X9_rulingsOn 11 rfl) hx0 ?_
      refine wr_iload_n (wg_da dt_X9_rulingsOn 12 rfl) rfl ?_
      refine wr_bipush (8 : Int32) (wg_da dt_X9_rulingsOn 13 rfl) (by decide) ?_
      refine wr_imul (wg_da dt_X9_rulingsOn 14 rfl) ?_
      refine wr_iload (wg_da dt_X9_rulingsOn 15 rfl) rfl ?_
      refine wr_iadd (wg_da dt_X9_rulingsOn 16 rfl) ?_
      refine wr_iald (wg_da dt_X9_rulingsOn 17 rfl) (wg_ty Sc_ok 9 5 0 hx0 rfl (by decide)).2 h (fun v2 h => ?_)
      refine wr_iload_n (wg_da dt_X9_rulingsOn 18 rfl) rfl ?_
      refine wr_icmp_ne 47 (wg_da dt_X9_rulingsOn 19 rfl) (by decide) h (fun h => ?_) (fun h => ?_)
      · refine wr_iload_n (wg_da dt_X9_rulingsOn 20 rfl) rfl ?_
        refine wr_aload_n (wg_da dt_X9_rulingsOn 21 rfl) rfl ?_
        refine wr_getR wf_X9_30 (wg_da dt_X9_rulingsOn 22 rfl) hx0 ?_
        refine wr_iload_n (wg_da dt_X9_rulingsOn 23 rfl) rfl ?_
        refine wr_bipush (8 : Int32) (wg_da dt_X9_rulingsOn 24 rfl) (by decide) ?_
        refine wr_imul (wg_da dt_X9_rulingsOn 25 rfl) ?_
        refine wr_iload (wg_da dt_X9_rulingsOn 26 rfl) rfl ?_
        refine wr_iadd (wg_da dt_X9_rulingsOn 27 rfl) ?_
        refine wr_iald (wg_da dt_X9_rulingsOn 28 rfl) (wg_ty Sc_ok 9 6 0 hx0 rfl (by decide)).2 h (fun v3 h => ?_)
        refine wr_iadd (wg_da dt_X9_rulingsOn 29 rfl) ?_
        refine wr_let h (fun v4 h => ?_)
        refine wr_istore_n (wg_da dt_X9_rulingsOn 30 rfl) (by decide) ?_
        exact wr_wk [true, true, true, true, true] (g_X9_rulingsOn_47 l E (f_X9_rulingsOn_5  n) x0 x1 x2 v4 x4 σ _ hx0 (fun x0 x1 x2 x3 x4 σ hx0 h => ih x0 x1 x2 x3 x4 σ hx0 h) h)
      · exact wr_wk [true, true, true, true, true] (g_X9_rulingsOn_47 l E (f_X9_rulingsOn_5  n) x0 x1 x2 x3 x4 σ _ hx0 (fun x0 x1 x2 x3 x4 σ hx0 h => ih x0 x1 x2 x3 x4 σ hx0 h) h)
set_option maxRecDepth 20000 in
theorem g_X9_rulingsOn_e (l : Launch) (E : wg_E)  (x0 : Nat) (x1 : Int32) (x2 : Int32) (σ : wg_M) (z : Int32 × wg_M) (hx0 : wg_t Sc x0 = 11) (h : f_X9_rulingsOn  x0 x1 x2 σ = some z) : wg_G l E Sc "WornWigs$Wigs" cX9_rulingsOn 5 (some .int) rm_X9_rulingsOn (some z.1) z.2 0 [some (.ref x0), some (.int x1), some (.int x2), none, none] [] σ := by
  refine wr_iconst (0 : Int32) (wg_da dt_X9_rulingsOn 0 rfl) (by decide) ?_
  refine wr_istore_n (wg_da dt_X9_rulingsOn 1 rfl) (by decide) ?_
  refine wr_iconst (0 : Int32) (wg_da dt_X9_rulingsOn 2 rfl) (by decide) ?_
  refine wr_istore (wg_da dt_X9_rulingsOn 3 rfl) (by decide) ?_
  exact wr_wk [true, true, true, true, true] (g_X9_rulingsOn_5 l E  _  wg_N x0 x1 x2 (0 : Int32) (0 : Int32) σ hx0 h)
theorem m_X9_rulingsOn (l : Launch) (E : wg_E) (x0 : Nat) (x1 : Int32) (x2 : Int32) (hx0 : wg_t Sc x0 = 11) (σ : wg_M) (q : Int32 × wg_M) (h : f_X9_rulingsOn x0 x1 x2 σ = some q) : wg_MG l E Sc yX9_rulingsOn cX9_rulingsOn 5 (some .int) rm_X9_rulingsOn [.ref x0, .int x1, .int x2] σ (some q.1) q.2 :=
  wg_met [.ref x0, .int x1, .int x2] (plainFor_of_name (by decide)) (Nat.le_of_ble_eq_true rfl) (g_X9_rulingsOn_e l E x0 x1 x2 σ q hx0 h)
abbrev rm_J9_abs_0f7a4 : Room := { frames := 0, cells := 0, slots := 0, locals := 0 }
def tb_J9_abs_0f7a4 : List (Nat × Instr × Nat) := [(0, .iload_n 0, 1), (1, .ifCond .ge 8, 3), (4, .iload_n 0, 1), (5, .ineg, 1), (6, .goto 4, 3), (9, .iload_n 0, 1), (10, .ireturn, 1)]
theorem dt_J9_abs_0f7a4 : wg_dc cJ9_abs_0f7a4 tb_J9_abs_0f7a4 := by unfold wg_dc; decide +kernel
def f_J9_abs_0f7a4  (x0 : Int32) (σ : wg_M) : Option (Int32 × wg_M) := if 0 ≤ x0 then (some (x0, σ)) else (some (-x0, σ))
set_option maxRecDepth 20000 in
theorem g_J9_abs_0f7a4_e (l : Launch) (E : wg_E)  (x0 : Int32) (σ : wg_M) (z : Int32 × wg_M)  (h : f_J9_abs_0f7a4  x0 σ = some z) : wg_G l E Sc "java/lang/Math" cJ9_abs_0f7a4 1 (some .int) rm_J9_abs_0f7a4 (some z.1) z.2 0 [some (.int x0)] [] σ := by
  refine wr_iload_n (wg_da dt_J9_abs_0f7a4 0 rfl) rfl ?_
  refine wr_if_ge 9 (wg_da dt_J9_abs_0f7a4 1 rfl) (by decide) h (fun h => ?_) (fun h => ?_)
  · refine wr_iload_n (wg_da dt_J9_abs_0f7a4 5 rfl) rfl ?_
    exact wr_iret (wg_da dt_J9_abs_0f7a4 6 rfl) h
  · refine wr_iload_n (wg_da dt_J9_abs_0f7a4 2 rfl) rfl ?_
    refine wr_ineg (wg_da dt_J9_abs_0f7a4 3 rfl) ?_
    refine wr_goto 10 (wg_da dt_J9_abs_0f7a4 4 rfl) (by decide) ?_
    exact wr_iret (wg_da dt_J9_abs_0f7a4 6 rfl) h
theorem m_J9_abs_0f7a4 (l : Launch) (E : wg_E) (x0 : Int32)  (σ : wg_M) (q : Int32 × wg_M) (h : f_J9_abs_0f7a4 x0 σ = some q) : wg_MG l E Sc yJ9_abs_0f7a4 cJ9_abs_0f7a4 1 (some .int) rm_J9_abs_0f7a4 [.int x0] σ (some q.1) q.2 :=
  wg_met [.int x0] (by decide +kernel) (Nat.le_of_ble_eq_true rfl) (g_J9_abs_0f7a4_e l E x0 σ q  h)
abbrev rm_X9_apart : Room := { frames := 1, cells := 0, slots := 0, locals := 24 }
def tb_X9_apart : List (Nat × Instr × Nat) := [(0, .iconst 0, 1), (1, .istore_n 3, 1), (2, .iconst 0, 1), (3, .istore 4, 2), (5, .iload 4, 2), (7, .bipush 8, 2), (9, .if_icmp .ge 30, 3), (12, .iload_n 3, 1), (13, .aload_n 0, 1), (14, .iload_n 1, 1), (15, .iload 4, 2), (17, .invokevirtual 76, 3), (20, .aload_n 0, 1), (21, .iload_n 2, 1), (22, .iload 4, 2), (24, .invokevirtual 76, 3), (27, .isub, 1), (28, .invokestatic 79, 3), (31, .iadd, 1), (32, .istore_n 3, 1), (33, .iinc 4 1, 3), (36, .goto (-31), 3), (39, .iload_n 3, 1), (40, .ireturn, 1)]
theorem dt_X9_apart : wg_dc cX9_apart tb_X9_apart := by unfold wg_dc; decide +kernel
def f_X9_apart_5  : Nat → Nat → Int32 → Int32 → Int32 → Int32 → wg_M → Option (Int32 × wg_M)
  | 0, _, _, _, _, _, _ => none
  | n + 1, x0, x1, x2, x3, x4, σ => if (8 : Int32) ≤ x4 then (some (x3, σ)) else (wg_bd (f_X9_rulingsOn x0 x1 x4 σ) (fun v1 s2 => wg_bd (f_X9_rulingsOn x0 x2 x4 s2) (fun v3 s4 => wg_bd (f_J9_abs_0f7a4 (v1 - v3) s4) (fun v5 s6 => wg_let (x3 + v5) (fun v7 => wg_let (x4 + (1 : Int32)) (fun v8 => f_X9_apart_5  n x0 x1 x2 v7 v8 s6))))))
def f_X9_apart  (x0 : Nat) (x1 : Int32) (x2 : Int32) (σ : wg_M) : Option (Int32 × wg_M) := f_X9_apart_5  wg_N x0 x1 x2 (0 : Int32) (0 : Int32) σ
set_option maxRecDepth 20000 in
theorem g_X9_apart_5 (l : Launch) (E : wg_E)  (z : Int32 × wg_M) : ∀ (n : Nat) (x0 : Nat) (x1 : Int32) (x2 : Int32) (x3 : Int32) (x4 : Int32) (σ : wg_M) (hx0 : wg_t Sc x0 = 11) (h : f_X9_apart_5  n x0 x1 x2 x3 x4 σ = some z), wg_G l E Sc "WornWigs$Wigs" cX9_apart 5 (some .int) rm_X9_apart (some z.1) z.2 5 [some (.ref x0), some (.int x1), some (.int x2), some (.int x3), some (.int x4)] [] σ := by
  intro n
  induction n with
  | zero => intro x0 x1 x2 x3 x4 σ hx0 h; cases h
  | succ n ih =>
    intro x0 x1 x2 x3 x4 σ hx0 h
    refine wr_iload (wg_da dt_X9_apart 4 rfl) rfl ?_
    refine wr_bipush (8 : Int32) (wg_da dt_X9_apart 5 rfl) (by decide) ?_
    refine wr_icmp_ge 39 (wg_da dt_X9_apart 6 rfl) (by decide) h (fun h => ?_) (fun h => ?_)
    · refine wr_iload_n (wg_da dt_X9_apart 22 rfl) rfl ?_
      exact wr_iret (wg_da dt_X9_apart 23 rfl) h
    · refine wr_iload_n (wg_da dt_X9_apart 7 rfl) rfl ?_
      refine wr_aload_n (wg_da dt_X9_apart 8 rfl) rfl ?_
      refine wr_iload_n (wg_da dt_X9_apart 9 rfl) rfl ?_
      refine wr_iload (wg_da dt_X9_apart 10 rfl) rfl ?_
      refine wr_callVi [.int x1, .int x4] [.int x3] (wg_da dt_X9_apart 11 rfl) ⟨wq_5_137, wq_5_139, wq_p3_8⟩ hx0 ⟨rfl, by decide⟩ wy_X9_rulingsOn (fun q hq => m_X9_rulingsOn l E x0 x1 x4 hx0 _ q hq) rfl rfl (Nat.le_of_ble_eq_true rfl) ⟨rfl, rfl, by decide, by decide⟩ h (fun v1 s2 h => ?_)
      refine wr_aload_n (wg_da dt_X9_apart 12 rfl) rfl ?_
      refine wr_iload_n (wg_da dt_X9_apart 13 rfl) rfl ?_
      refine wr_iload (wg_da dt_X9_apart 14 rfl) rfl ?_
      refine wr_callVi [.int x2, .int x4] [.int v1, .int x3] (wg_da dt_X9_apart 15 rfl) ⟨wq_5_137, wq_5_139, wq_p3_8⟩ hx0 ⟨rfl, by decide⟩ wy_X9_rulingsOn (fun q hq => m_X9_rulingsOn l E x0 x2 x4 hx0 _ q hq) rfl rfl (Nat.le_of_ble_eq_true rfl) ⟨rfl, rfl, by decide, by decide⟩ h (fun v3 s4 h => ?_)
      refine wr_isub (wg_da dt_X9_apart 16 rfl) ?_
      refine wr_callSi [.int (v1 - v3)] [.int x3] (wg_da dt_X9_apart 17 rfl) ⟨wq_5_141, wq_5_142⟩ wy_J9_abs_0f7a4 (fun q hq => m_J9_abs_0f7a4 l E (v1 - v3)  _ q hq) rfl rfl (Nat.le_of_ble_eq_true rfl) ⟨rfl, rfl, by decide, by decide⟩ h (fun v5 s6 h => ?_)
      refine wr_iadd (wg_da dt_X9_apart 18 rfl) ?_
      refine wr_let h (fun v7 h => ?_)
      refine wr_istore_n (wg_da dt_X9_apart 19 rfl) (by decide) ?_
      refine wr_iinc (c0 := (1 : Int32)) (wg_da dt_X9_apart 20 rfl) rfl (by decide) (by decide) h (fun v8 h => ?_)
      refine wr_goto 5 (wg_da dt_X9_apart 21 rfl) (by decide) ?_
      exact wr_wk [true, true, true, true, true] (ih x0 x1 x2 v7 v8 s6 hx0 h)
set_option maxRecDepth 20000 in
theorem g_X9_apart_e (l : Launch) (E : wg_E)  (x0 : Nat) (x1 : Int32) (x2 : Int32) (σ : wg_M) (z : Int32 × wg_M) (hx0 : wg_t Sc x0 = 11) (h : f_X9_apart  x0 x1 x2 σ = some z) : wg_G l E Sc "WornWigs$Wigs" cX9_apart 5 (some .int) rm_X9_apart (some z.1) z.2 0 [some (.ref x0), some (.int x1), some (.int x2), none, none] [] σ := by
  refine wr_iconst (0 : Int32) (wg_da dt_X9_apart 0 rfl) (by decide) ?_
  refine wr_istore_n (wg_da dt_X9_apart 1 rfl) (by decide) ?_
  refine wr_iconst (0 : Int32) (wg_da dt_X9_apart 2 rfl) (by decide) ?_
  refine wr_istore (wg_da dt_X9_apart 3 rfl) (by decide) ?_
  exact wr_wk [true, true, true, true, true] (g_X9_apart_5 l E  _  wg_N x0 x1 x2 (0 : Int32) (0 : Int32) σ hx0 h)
theorem m_X9_apart (l : Launch) (E : wg_E) (x0 : Nat) (x1 : Int32) (x2 : Int32) (hx0 : wg_t Sc x0 = 11) (σ : wg_M) (q : Int32 × wg_M) (h : f_X9_apart x0 x1 x2 σ = some q) : wg_MG l E Sc yX9_apart cX9_apart 5 (some .int) rm_X9_apart [.ref x0, .int x1, .int x2] σ (some q.1) q.2 :=
  wg_met [.ref x0, .int x1, .int x2] (plainFor_of_name (by decide)) (Nat.le_of_ble_eq_true rfl) (g_X9_apart_e l E x0 x1 x2 σ q hx0 h)
abbrev rm_X9_nearest : Room := { frames := 2, cells := 0, slots := 0, locals := 48 }
def tb_X9_nearest : List (Nat × Instr × Nat) := [(0, .iconst (-1), 1), (1, .istore_n 2, 1), (2, .iconst 0, 1), (3, .istore_n 3, 1), (4, .iconst 0, 1), (5, .istore 4, 2), (7, .iload 4, 2), (9, .aload_n 0, 1), (10, .getfield 40, 3), (13, .if_icmp .ge 41, 3), (16, .aload_n 0, 1), (17, .iload_n 1, 1), (18, .iload 4, 2), (20, .invokevirtual 82, 3), (23, .istore 5, 2), (25, .iload 4, 2), (27, .iload_n 1, 1), (28, .if_icmp .eq 20, 3), (31, .iload_n 2, 1), (32, .iconst (-1), 1), (33, .if_icmp .eq 9, 3), (36, .iload 5, 2), (38, .iload_n 3, 1), (39, .if_icmp .ge 9, 3), (42, .iload 4, 2), (44, .istore_n 2, 1), (45, .iload 5, 2), (47, .istore_n 3, 1), (48, .iinc 4 1, 3), (51, .goto (-44), 3), (54, .iload_n 2, 1), (55, .ireturn, 1)]
theorem dt_X9_nearest : wg_dc cX9_nearest tb_X9_nearest := by unfold wg_dc; decide +kernel
def f_X9_nearest_48 (k7 : Nat → Int32 → Int32 → Int32 → Int32 → wg_M → Option (Int32 × wg_M)) (x0 : Nat) (x1 : Int32) (x2 : Int32) (x3 : Int32) (x4 : Int32) (σ : wg_M) : Option (Int32 × wg_M) := wg_let (x4 + (1 : Int32)) (fun v1 => k7 x0 x1 x2 x3 v1 σ)
def f_X9_nearest_42 (k7 : Nat → Int32 → Int32 → Int32 → Int32 → wg_M → Option (Int32 × wg_M)) (x0 : Nat) (x1 : Int32) (x4 : Int32) (x5 : Int32) (σ : wg_M) : Option (Int32 × wg_M) := f_X9_nearest_48 k7 x0 x1 x4 x5 x4 σ
def f_X9_nearest_7  : Nat → Nat → Int32 → Int32 → Int32 → Int32 → wg_M → Option (Int32 × wg_M)
  | 0, _, _, _, _, _, _ => none
  | n + 1, x0, x1, x2, x3, x4, σ => if (σ x0 8) ≤ x4 then (some (x2, σ)) else (wg_bd (f_X9_apart x0 x1 x4 σ) (fun v1 s2 => if x4 = x1 then (f_X9_nearest_48 (f_X9_nearest_7  n) x0 x1 x2 x3 x4 s2) else (if x2 = (-1 : Int32) then (f_X9_nearest_42 (f_X9_nearest_7  n) x0 x1 x4 v1 s2) else (if x3 ≤ v1 then (f_X9_nearest_48 (f_X9_nearest_7  n) x0 x1 x2 x3 x4 s2) else (f_X9_nearest_42 (f_X9_nearest_7  n) x0 x1 x4 v1 s2)))))
def f_X9_nearest  (x0 : Nat) (x1 : Int32) (σ : wg_M) : Option (Int32 × wg_M) := f_X9_nearest_7  wg_N x0 x1 (-1 : Int32) (0 : Int32) (0 : Int32) σ
set_option maxRecDepth 20000 in
theorem g_X9_nearest_48 (l : Launch) (E : wg_E) (k7 : Nat → Int32 → Int32 → Int32 → Int32 → wg_M → Option (Int32 × wg_M)) (x0 : Nat) (x1 : Int32) (x2 : Int32) (x3 : Int32) (x4 : Int32) (σ : wg_M) (z : Int32 × wg_M) (hx0 : wg_t Sc x0 = 11) (hk7 : ∀ (x0 : Nat) (x1 : Int32) (x2 : Int32) (x3 : Int32) (x4 : Int32) (σ : wg_M), wg_t Sc x0 = 11 → k7 x0 x1 x2 x3 x4 σ = some z → wg_G l E Sc "WornWigs$Wigs" cX9_nearest 6 (some .int) rm_X9_nearest (some z.1) z.2 7 [some (.ref x0), some (.int x1), some (.int x2), some (.int x3), some (.int x4), none] [] σ) (h : f_X9_nearest_48 k7 x0 x1 x2 x3 x4 σ = some z) : wg_G l E Sc "WornWigs$Wigs" cX9_nearest 6 (some .int) rm_X9_nearest (some z.1) z.2 48 [some (.ref x0), some (.int x1), some (.int x2), some (.int x3), some (.int x4), none] [] σ := by
  refine wr_iinc (c0 := (1 : Int32)) (wg_da dt_X9_nearest 28 rfl) rfl (by decide) (by decide) h (fun v1 h => ?_)
  refine wr_goto 7 (wg_da dt_X9_nearest 29 rfl) (by decide) ?_
  exact wr_wk [true, true, true, true, true, false] (hk7 x0 x1 x2 x3 v1 σ hx0 h)
set_option maxRecDepth 20000 in
theorem g_X9_nearest_42 (l : Launch) (E : wg_E) (k7 : Nat → Int32 → Int32 → Int32 → Int32 → wg_M → Option (Int32 × wg_M)) (x0 : Nat) (x1 : Int32) (x4 : Int32) (x5 : Int32) (σ : wg_M) (z : Int32 × wg_M) (hx0 : wg_t Sc x0 = 11) (hk7 : ∀ (x0 : Nat) (x1 : Int32) (x2 : Int32) (x3 : Int32) (x4 : Int32) (σ : wg_M), wg_t Sc x0 = 11 → k7 x0 x1 x2 x3 x4 σ = some z → wg_G l E Sc "WornWigs$Wigs" cX9_nearest 6 (some .int) rm_X9_nearest (some z.1) z.2 7 [some (.ref x0), some (.int x1), some (.int x2), some (.int x3), some (.int x4), none] [] σ) (h : f_X9_nearest_42 k7 x0 x1 x4 x5 σ = some z) : wg_G l E Sc "WornWigs$Wigs" cX9_nearest 6 (some .int) rm_X9_nearest (some z.1) z.2 42 [some (.ref x0), some (.int x1), none, none, some (.int x4), some (.int x5)] [] σ := by
  refine wr_iload (wg_da dt_X9_nearest 24 rfl) rfl ?_
  refine wr_istore_n (wg_da dt_X9_nearest 25 rfl) (by decide) ?_
  refine wr_iload (wg_da dt_X9_nearest 26 rfl) rfl ?_
  refine wr_istore_n (wg_da dt_X9_nearest 27 rfl) (by decide) ?_
  exact wr_wk [true, true, true, true, true, false] (g_X9_nearest_48 l E k7 x0 x1 x4 x5 x4 σ _ hx0 hk7 h)
set_option maxRecDepth 20000 in
theorem g_X9_nearest_7 (l : Launch) (E : wg_E)  (z : Int32 × wg_M) : ∀ (n : Nat) (x0 : Nat) (x1 : Int32) (x2 : Int32) (x3 : Int32) (x4 : Int32) (σ : wg_M) (hx0 : wg_t Sc x0 = 11) (h : f_X9_nearest_7  n x0 x1 x2 x3 x4 σ = some z), wg_G l E Sc "WornWigs$Wigs" cX9_nearest 6 (some .int) rm_X9_nearest (some z.1) z.2 7 [some (.ref x0), some (.int x1), some (.int x2), some (.int x3), some (.int x4), none] [] σ := by
  intro n
  induction n with
  | zero => intro x0 x1 x2 x3 x4 σ hx0 h; cases h
  | succ n ih =>
    intro x0 x1 x2 x3 x4 σ hx0 h
    refine wr_iload (wg_da dt_X9_nearest 6 rfl) rfl ?_
    refine wr_aload_n (wg_da dt_X9_nearest 7 rfl) rfl ?_
    refine wr_getI wf_X9_40 (wg_da dt_X9_nearest 8 rfl) hx0 ?_
    refine wr_icmp_ge 54 (wg_da dt_X9_nearest 9 rfl) (by decide) h (fun h => ?_) (fun h => ?_)
    · refine wr_iload_n (wg_da dt_X9_nearest 30 rfl) rfl ?_
      exact wr_iret (wg_da dt_X9_nearest 31 rfl) h
    · refine wr_aload_n (wg_da dt_X9_nearest 10 rfl) rfl ?_
      refine wr_iload_n (wg_da dt_X9_nearest 11 rfl) rfl ?_
      refine wr_iload (wg_da dt_X9_nearest 12 rfl) rfl ?_
      refine wr_callVi [.int x1, .int x4] [] (wg_da dt_X9_nearest 13 rfl) ⟨wq_5_133, wq_5_134, wq_5_135⟩ hx0 ⟨rfl, by decide⟩ wy_X9_apart (fun q hq => m_X9_apart l E x0 x1 x4 hx0 _ q hq) rfl rfl (Nat.le_of_ble_eq_true rfl) ⟨rfl, rfl, by decide, by decide⟩ h (fun v1 s2 h => ?_)
      refine wr_istore (wg_da dt_X9_nearest 14 rfl) (by decide) ?_
      refine wr_iload (wg_da dt_X9_nearest 15 rfl) rfl ?_
      refine wr_iload_n (wg_da dt_X9_nearest 16 rfl) rfl ?_
      refine wr_icmp_eq 48 (wg_da dt_X9_nearest 17 rfl) (by decide) h (fun h => ?_) (fun h => ?_)
      · exact wr_wk [true, true, true, true, true, false] (g_X9_nearest_48 l E (f_X9_nearest_7  n) x0 x1 x2 x3 x4 s2 _ hx0 (fun x0 x1 x2 x3 x4 σ hx0 h => ih x0 x1 x2 x3 x4 σ hx0 h) h)
      · refine wr_iload_n (wg_da dt_X9_nearest 18 rfl) rfl ?_
        refine wr_iconst (-1 : Int32) (wg_da dt_X9_nearest 19 rfl) (by decide) ?_
        refine wr_icmp_eq 42 (wg_da dt_X9_nearest 20 rfl) (by decide) h (fun h => ?_) (fun h => ?_)
        · exact wr_wk [true, true, false, false, true, true] (g_X9_nearest_42 l E (f_X9_nearest_7  n) x0 x1 x4 v1 s2 _ hx0 (fun x0 x1 x2 x3 x4 σ hx0 h => ih x0 x1 x2 x3 x4 σ hx0 h) h)
        · refine wr_iload (wg_da dt_X9_nearest 21 rfl) rfl ?_
          refine wr_iload_n (wg_da dt_X9_nearest 22 rfl) rfl ?_
          refine wr_icmp_ge 48 (wg_da dt_X9_nearest 23 rfl) (by decide) h (fun h => ?_) (fun h => ?_)
          · exact wr_wk [true, true, true, true, true, false] (g_X9_nearest_48 l E (f_X9_nearest_7  n) x0 x1 x2 x3 x4 s2 _ hx0 (fun x0 x1 x2 x3 x4 σ hx0 h => ih x0 x1 x2 x3 x4 σ hx0 h) h)
          · exact wr_wk [true, true, false, false, true, true] (g_X9_nearest_42 l E (f_X9_nearest_7  n) x0 x1 x4 v1 s2 _ hx0 (fun x0 x1 x2 x3 x4 σ hx0 h => ih x0 x1 x2 x3 x4 σ hx0 h) h)
set_option maxRecDepth 20000 in
theorem g_X9_nearest_e (l : Launch) (E : wg_E)  (x0 : Nat) (x1 : Int32) (σ : wg_M) (z : Int32 × wg_M) (hx0 : wg_t Sc x0 = 11) (h : f_X9_nearest  x0 x1 σ = some z) : wg_G l E Sc "WornWigs$Wigs" cX9_nearest 6 (some .int) rm_X9_nearest (some z.1) z.2 0 [some (.ref x0), some (.int x1), none, none, none, none] [] σ := by
  refine wr_iconst (-1 : Int32) (wg_da dt_X9_nearest 0 rfl) (by decide) ?_
  refine wr_istore_n (wg_da dt_X9_nearest 1 rfl) (by decide) ?_
  refine wr_iconst (0 : Int32) (wg_da dt_X9_nearest 2 rfl) (by decide) ?_
  refine wr_istore_n (wg_da dt_X9_nearest 3 rfl) (by decide) ?_
  refine wr_iconst (0 : Int32) (wg_da dt_X9_nearest 4 rfl) (by decide) ?_
  refine wr_istore (wg_da dt_X9_nearest 5 rfl) (by decide) ?_
  exact wr_wk [true, true, true, true, true, false] (g_X9_nearest_7 l E  _  wg_N x0 x1 (-1 : Int32) (0 : Int32) (0 : Int32) σ hx0 h)
theorem m_X9_nearest (l : Launch) (E : wg_E) (x0 : Nat) (x1 : Int32) (hx0 : wg_t Sc x0 = 11) (σ : wg_M) (q : Int32 × wg_M) (h : f_X9_nearest x0 x1 σ = some q) : wg_MG l E Sc yX9_nearest cX9_nearest 6 (some .int) rm_X9_nearest [.ref x0, .int x1] σ (some q.1) q.2 :=
  wg_met [.ref x0, .int x1] (plainFor_of_name (by decide)) (Nat.le_of_ble_eq_true rfl) (g_X9_nearest_e l E x0 x1 σ q hx0 h)
abbrev rm_X9_worthOf : Room := { frames := 0, cells := 0, slots := 0, locals := 0 }
def tb_X9_worthOf : List (Nat × Instr × Nat) := [(0, .iconst 0, 1), (1, .istore_n 2, 1), (2, .iconst 0, 1), (3, .istore_n 3, 1), (4, .iload_n 3, 1), (5, .aload_n 0, 1), (6, .getfield 40, 3), (9, .if_icmp .ge 43, 3), (12, .iload_n 1, 1), (13, .iload_n 3, 1), (14, .ishr, 1), (15, .iconst 1, 1), (16, .iand, 1), (17, .iconst 1, 1), (18, .if_icmp .ne 28, 3), (21, .iload_n 2, 1), (22, .aload_n 0, 1), (23, .getfield 24, 3), (26, .iload_n 3, 1), (27, .iaload, 1), (28, .aload_n 0, 1), (29, .getfield 9, 3), (32, .iload_n 3, 1), (33, .iaload, 1), (34, .iconst 1, 1), (35, .if_icmp .ne 7, 3), (38, .iconst 3, 1), (39, .goto 4, 3), (42, .iconst 0, 1), (43, .iadd, 1), (44, .iadd, 1), (45, .istore_n 2, 1), (46, .iinc 3 1, 3), (49, .goto (-45), 3), (52, .iload_n 2, 1), (53, .ireturn, 1)]
theorem dt_X9_worthOf : wg_dc cX9_worthOf tb_X9_worthOf := by unfold wg_dc; decide +kernel
def f_X9_worthOf_46 (k4 : Nat → Int32 → Int32 → Int32 → wg_M → Option (Int32 × wg_M)) (x0 : Nat) (x1 : Int32) (x2 : Int32) (x3 : Int32) (σ : wg_M) : Option (Int32 × wg_M) := wg_let (x3 + (1 : Int32)) (fun v1 => k4 x0 x1 x2 v1 σ)
def f_X9_worthOf_43 (k4 : Nat → Int32 → Int32 → Int32 → wg_M → Option (Int32 × wg_M)) (x0 : Nat) (x1 : Int32) (x3 : Int32) (t0 : Int32) (t1 : Int32) (t2 : Int32) (σ : wg_M) : Option (Int32 × wg_M) := wg_let (t2 + (t1 + t0)) (fun v1 => f_X9_worthOf_46 k4 x0 x1 v1 x3 σ)
def f_X9_worthOf_4  : Nat → Nat → Int32 → Int32 → Int32 → wg_M → Option (Int32 × wg_M)
  | 0, _, _, _, _, _ => none
  | n + 1, x0, x1, x2, x3, σ => if (σ x0 8) ≤ x3 then (some (x2, σ)) else (if ((x1 >>> (x3 &&& 31)) &&& (1 : Int32)) = (1 : Int32) then (wg_ga (wg_n Sc (wg_r Sc x0 4)) (σ (wg_r Sc x0 4)) x3 (fun v1 => wg_ga (wg_n Sc (wg_r Sc x0 0)) (σ (wg_r Sc x0 0)) x3 (fun v2 => if v2 = (1 : Int32) then (f_X9_worthOf_43 (f_X9_worthOf_4  n) x0 x1 x3 (3 : Int32) v1 x2 σ) else (f_X9_worthOf_43 (f_X9_worthOf_4  n) x0 x1 x3 (0 : Int32) v1 x2 σ)))) else (f_X9_worthOf_46 (f_X9_worthOf_4  n) x0 x1 x2 x3 σ))
def f_X9_worthOf  (x0 : Nat) (x1 : Int32) (σ : wg_M) : Option (Int32 × wg_M) := f_X9_worthOf_4  wg_N x0 x1 (0 : Int32) (0 : Int32) σ
set_option maxRecDepth 20000 in
theorem g_X9_worthOf_46 (l : Launch) (E : wg_E) (k4 : Nat → Int32 → Int32 → Int32 → wg_M → Option (Int32 × wg_M)) (x0 : Nat) (x1 : Int32) (x2 : Int32) (x3 : Int32) (σ : wg_M) (z : Int32 × wg_M) (hx0 : wg_t Sc x0 = 11) (hk4 : ∀ (x0 : Nat) (x1 : Int32) (x2 : Int32) (x3 : Int32) (σ : wg_M), wg_t Sc x0 = 11 → k4 x0 x1 x2 x3 σ = some z → wg_G l E Sc "WornWigs$Wigs" cX9_worthOf 4 (some .int) rm_X9_worthOf (some z.1) z.2 4 [some (.ref x0), some (.int x1), some (.int x2), some (.int x3)] [] σ) (h : f_X9_worthOf_46 k4 x0 x1 x2 x3 σ = some z) : wg_G l E Sc "WornWigs$Wigs" cX9_worthOf 4 (some .int) rm_X9_worthOf (some z.1) z.2 46 [some (.ref x0), some (.int x1), some (.int x2), some (.int x3)] [] σ := by
  refine wr_iinc (c0 := (1 : Int32)) (wg_da dt_X9_worthOf 32 rfl) rfl (by decide) (by decide) h (fun v1 h => ?_)
  refine wr_goto 4 (wg_da dt_X9_worthOf 33 rfl) (by decide) ?_
  exact wr_wk [true, true, true, true] (hk4 x0 x1 x2 v1 σ hx0 h)
set_option maxRecDepth 20000 in
theorem g_X9_worthOf_43 (l : Launch) (E : wg_E) (k4 : Nat → Int32 → Int32 → Int32 → wg_M → Option (Int32 × wg_M)) (x0 : Nat) (x1 : Int32) (x3 : Int32) (t0 : Int32) (t1 : Int32) (t2 : Int32) (σ : wg_M) (z : Int32 × wg_M) (hx0 : wg_t Sc x0 = 11) (hk4 : ∀ (x0 : Nat) (x1 : Int32) (x2 : Int32) (x3 : Int32) (σ : wg_M), wg_t Sc x0 = 11 → k4 x0 x1 x2 x3 σ = some z → wg_G l E Sc "WornWigs$Wigs" cX9_worthOf 4 (some .int) rm_X9_worthOf (some z.1) z.2 4 [some (.ref x0), some (.int x1), some (.int x2), some (.int x3)] [] σ) (h : f_X9_worthOf_43 k4 x0 x1 x3 t0 t1 t2 σ = some z) : wg_G l E Sc "WornWigs$Wigs" cX9_worthOf 4 (some .int) rm_X9_worthOf (some z.1) z.2 43 [some (.ref x0), some (.int x1), none, some (.int x3)] [.int t0, .int t1, .int t2] σ := by
  refine wr_iadd (wg_da dt_X9_worthOf 29 rfl) ?_
  refine wr_iadd (wg_da dt_X9_worthOf 30 rfl) ?_
  refine wr_let h (fun v1 h => ?_)
  refine wr_istore_n (wg_da dt_X9_worthOf 31 rfl) (by decide) ?_
  exact wr_wk [true, true, true, true] (g_X9_worthOf_46 l E k4 x0 x1 v1 x3 σ _ hx0 hk4 h)
set_option maxRecDepth 20000 in
theorem g_X9_worthOf_4 (l : Launch) (E : wg_E)  (z : Int32 × wg_M) : ∀ (n : Nat) (x0 : Nat) (x1 : Int32) (x2 : Int32) (x3 : Int32) (σ : wg_M) (hx0 : wg_t Sc x0 = 11) (h : f_X9_worthOf_4  n x0 x1 x2 x3 σ = some z), wg_G l E Sc "WornWigs$Wigs" cX9_worthOf 4 (some .int) rm_X9_worthOf (some z.1) z.2 4 [some (.ref x0), some (.int x1), some (.int x2), some (.int x3)] [] σ := by
  intro n
  induction n with
  | zero => intro x0 x1 x2 x3 σ hx0 h; cases h
  | succ n ih =>
    intro x0 x1 x2 x3 σ hx0 h
    refine wr_iload_n (wg_da dt_X9_worthOf 4 rfl) rfl ?_
    refine wr_aload_n (wg_da dt_X9_worthOf 5 rfl) rfl ?_
    refine wr_getI wf_X9_40 (wg_da dt_X9_worthOf 6 rfl) hx0 ?_
    refine wr_icmp_ge 52 (wg_da dt_X9_worthOf 7 rfl) (by decide) h (fun h => ?_) (fun h => ?_)
    · refine wr_iload_n (wg_da dt_X9_worthOf 34 rfl) rfl ?_
      exact wr_iret (wg_da dt_X9_worthOf 35 rfl) h
    · refine wr_iload_n (wg_da dt_X9_worthOf 8 rfl) rfl ?_
      refine wr_iload_n (wg_da dt_X9_worthOf 9 rfl) rfl ?_
      refine wr_ishr (wg_da dt_X9_worthOf 10 rfl) ?_
      refine wr_iconst (1 : Int32) (wg_da dt_X9_worthOf 11 rfl) (by decide) ?_
      refine wr_iand (wg_da dt_X9_worthOf 12 rfl) ?_
      refine wr_iconst (1 : Int32) (wg_da dt_X9_worthOf 13 rfl) (by decide) ?_
      refine wr_icmp_ne 46 (wg_da dt_X9_worthOf 14 rfl) (by decide) h (fun h => ?_) (fun h => ?_)
      · refine wr_iload_n (wg_da dt_X9_worthOf 15 rfl) rfl ?_
        refine wr_aload_n (wg_da dt_X9_worthOf 16 rfl) rfl ?_
        refine wr_getR wf_X9_24 (wg_da dt_X9_worthOf 17 rfl) hx0 ?_
        refine wr_iload_n (wg_da dt_X9_worthOf 18 rfl) rfl ?_
        refine wr_iald (wg_da dt_X9_worthOf 19 rfl) (wg_ty Sc_ok 9 4 0 hx0 rfl (by decide)).2 h (fun v1 h => ?_)
        refine wr_aload_n (wg_da dt_X9_worthOf 20 rfl) rfl ?_
        refine wr_getR wf_X9_9 (wg_da dt_X9_worthOf 21 rfl) hx0 ?_
        refine wr_iload_n (wg_da dt_X9_worthOf 22 rfl) rfl ?_
        refine wr_iald (wg_da dt_X9_worthOf 23 rfl) (wg_ty Sc_ok 9 0 0 hx0 rfl (by decide)).2 h (fun v2 h => ?_)
        refine wr_iconst (1 : Int32) (wg_da dt_X9_worthOf 24 rfl) (by decide) ?_
        refine wr_icmp_ne 42 (wg_da dt_X9_worthOf 25 rfl) (by decide) h (fun h => ?_) (fun h => ?_)
        · refine wr_iconst (3 : Int32) (wg_da dt_X9_worthOf 26 rfl) (by decide) ?_
          refine wr_goto 43 (wg_da dt_X9_worthOf 27 rfl) (by decide) ?_
          exact wr_wk [true, true, false, true] (g_X9_worthOf_43 l E (f_X9_worthOf_4  n) x0 x1 x3 (3 : Int32) v1 x2 σ _ hx0 (fun x0 x1 x2 x3 σ hx0 h => ih x0 x1 x2 x3 σ hx0 h) h)
        · refine wr_iconst (0 : Int32) (wg_da dt_X9_worthOf 28 rfl) (by decide) ?_
          exact wr_wk [true, true, false, true] (g_X9_worthOf_43 l E (f_X9_worthOf_4  n) x0 x1 x3 (0 : Int32) v1 x2 σ _ hx0 (fun x0 x1 x2 x3 σ hx0 h => ih x0 x1 x2 x3 σ hx0 h) h)
      · exact wr_wk [true, true, true, true] (g_X9_worthOf_46 l E (f_X9_worthOf_4  n) x0 x1 x2 x3 σ _ hx0 (fun x0 x1 x2 x3 σ hx0 h => ih x0 x1 x2 x3 σ hx0 h) h)
set_option maxRecDepth 20000 in
theorem g_X9_worthOf_e (l : Launch) (E : wg_E)  (x0 : Nat) (x1 : Int32) (σ : wg_M) (z : Int32 × wg_M) (hx0 : wg_t Sc x0 = 11) (h : f_X9_worthOf  x0 x1 σ = some z) : wg_G l E Sc "WornWigs$Wigs" cX9_worthOf 4 (some .int) rm_X9_worthOf (some z.1) z.2 0 [some (.ref x0), some (.int x1), none, none] [] σ := by
  refine wr_iconst (0 : Int32) (wg_da dt_X9_worthOf 0 rfl) (by decide) ?_
  refine wr_istore_n (wg_da dt_X9_worthOf 1 rfl) (by decide) ?_
  refine wr_iconst (0 : Int32) (wg_da dt_X9_worthOf 2 rfl) (by decide) ?_
  refine wr_istore_n (wg_da dt_X9_worthOf 3 rfl) (by decide) ?_
  exact wr_wk [true, true, true, true] (g_X9_worthOf_4 l E  _  wg_N x0 x1 (0 : Int32) (0 : Int32) σ hx0 h)
theorem m_X9_worthOf (l : Launch) (E : wg_E) (x0 : Nat) (x1 : Int32) (hx0 : wg_t Sc x0 = 11) (σ : wg_M) (q : Int32 × wg_M) (h : f_X9_worthOf x0 x1 σ = some q) : wg_MG l E Sc yX9_worthOf cX9_worthOf 4 (some .int) rm_X9_worthOf [.ref x0, .int x1] σ (some q.1) q.2 :=
  wg_met [.ref x0, .int x1] (plainFor_of_name (by decide)) (Nat.le_of_ble_eq_true rfl) (g_X9_worthOf_e l E x0 x1 σ q hx0 h)
abbrev rm_X9_toSave : Room := { frames := 1, cells := 0, slots := 0, locals := 23 }
def tb_X9_toSave : List (Nat × Instr × Nat) := [(0, .iconst 0, 1), (1, .istore_n 2, 1), (2, .iconst 0, 1), (3, .istore_n 3, 1), (4, .iconst 1, 1), (5, .istore 4, 2), (7, .iload 4, 2), (9, .iconst 1, 1), (10, .aload_n 0, 1), (11, .getfield 40, 3), (14, .ishl, 1), (15, .if_icmp .ge 39, 3), (18, .aload_n 0, 1), (19, .iload 4, 2), (21, .invokevirtual 85, 3), (24, .iload_n 1, 1), (25, .if_icmp .gt 23, 3), (28, .aload_n 0, 1), (29, .iload 4, 2), (31, .invokevirtual 88, 3), (34, .iload_n 3, 1), (35, .if_icmp .le 13, 3), (38, .iload 4, 2), (40, .istore_n 2, 1), (41, .aload_n 0, 1), (42, .iload 4, 2), (44, .invokevirtual 88, 3), (47, .istore_n 3, 1), (48, .iinc 4 1, 3), (51, .goto (-44), 3), (54, .iload_n 2, 1), (55, .ireturn, 1)]
theorem dt_X9_toSave : wg_dc cX9_toSave tb_X9_toSave := by unfold wg_dc; decide +kernel
def f_X9_toSave_48 (k7 : Nat → Int32 → Int32 → Int32 → Int32 → wg_M → Option (Int32 × wg_M)) (x0 : Nat) (x1 : Int32) (x2 : Int32) (x3 : Int32) (x4 : Int32) (σ : wg_M) : Option (Int32 × wg_M) := wg_let (x4 + (1 : Int32)) (fun v1 => k7 x0 x1 x2 x3 v1 σ)
def f_X9_toSave_7  : Nat → Nat → Int32 → Int32 → Int32 → Int32 → wg_M → Option (Int32 × wg_M)
  | 0, _, _, _, _, _, _ => none
  | n + 1, x0, x1, x2, x3, x4, σ => if ((1 : Int32) <<< ((σ x0 8) &&& 31)) ≤ x4 then (some (x2, σ)) else (wg_bd (f_X9_hairOf x0 x4 σ) (fun v1 s2 => if x1 < v1 then (f_X9_toSave_48 (f_X9_toSave_7  n) x0 x1 x2 x3 x4 s2) else (wg_bd (f_X9_worthOf x0 x4 s2) (fun v3 s4 => if v3 ≤ x3 then (f_X9_toSave_48 (f_X9_toSave_7  n) x0 x1 x2 x3 x4 s4) else (wg_bd (f_X9_worthOf x0 x4 s4) (fun v5 s6 => f_X9_toSave_48 (f_X9_toSave_7  n) x0 x1 x4 v5 x4 s6))))))
def f_X9_toSave  (x0 : Nat) (x1 : Int32) (σ : wg_M) : Option (Int32 × wg_M) := f_X9_toSave_7  wg_N x0 x1 (0 : Int32) (0 : Int32) (1 : Int32) σ
set_option maxRecDepth 20000 in
theorem g_X9_toSave_48 (l : Launch) (E : wg_E) (k7 : Nat → Int32 → Int32 → Int32 → Int32 → wg_M → Option (Int32 × wg_M)) (x0 : Nat) (x1 : Int32) (x2 : Int32) (x3 : Int32) (x4 : Int32) (σ : wg_M) (z : Int32 × wg_M) (hx0 : wg_t Sc x0 = 11) (hk7 : ∀ (x0 : Nat) (x1 : Int32) (x2 : Int32) (x3 : Int32) (x4 : Int32) (σ : wg_M), wg_t Sc x0 = 11 → k7 x0 x1 x2 x3 x4 σ = some z → wg_G l E Sc "WornWigs$Wigs" cX9_toSave 5 (some .int) rm_X9_toSave (some z.1) z.2 7 [some (.ref x0), some (.int x1), some (.int x2), some (.int x3), some (.int x4)] [] σ) (h : f_X9_toSave_48 k7 x0 x1 x2 x3 x4 σ = some z) : wg_G l E Sc "WornWigs$Wigs" cX9_toSave 5 (some .int) rm_X9_toSave (some z.1) z.2 48 [some (.ref x0), some (.int x1), some (.int x2), some (.int x3), some (.int x4)] [] σ := by
  refine wr_iinc (c0 := (1 : Int32)) (wg_da dt_X9_toSave 28 rfl) rfl (by decide) (by decide) h (fun v1 h => ?_)
  refine wr_goto 7 (wg_da dt_X9_toSave 29 rfl) (by decide) ?_
  exact wr_wk [true, true, true, true, true] (hk7 x0 x1 x2 x3 v1 σ hx0 h)
set_option maxRecDepth 20000 in
theorem g_X9_toSave_7 (l : Launch) (E : wg_E)  (z : Int32 × wg_M) : ∀ (n : Nat) (x0 : Nat) (x1 : Int32) (x2 : Int32) (x3 : Int32) (x4 : Int32) (σ : wg_M) (hx0 : wg_t Sc x0 = 11) (h : f_X9_toSave_7  n x0 x1 x2 x3 x4 σ = some z), wg_G l E Sc "WornWigs$Wigs" cX9_toSave 5 (some .int) rm_X9_toSave (some z.1) z.2 7 [some (.ref x0), some (.int x1), some (.int x2), some (.int x3), some (.int x4)] [] σ := by
  intro n
  induction n with
  | zero => intro x0 x1 x2 x3 x4 σ hx0 h; cases h
  | succ n ih =>
    intro x0 x1 x2 x3 x4 σ hx0 h
    refine wr_iload (wg_da dt_X9_toSave 6 rfl) rfl ?_
    refine wr_iconst (1 : Int32) (wg_da dt_X9_toSave 7 rfl) (by decide) ?_
    refine wr_aload_n (wg_da dt_X9_toSave 8 rfl) rfl ?_
    refine wr_getI wf_X9_40 (wg_da dt_X9_toSave 9 rfl) hx0 ?_
    refine wr_ishl (wg_da dt_X9_toSave 10 rfl) ?_
    refine wr_icmp_ge 54 (wg_da dt_X9_toSave 11 rfl) (by decide) h (fun h => ?_) (fun h => ?_)
    · refine wr_iload_n (wg_da dt_X9_toSave 30 rfl) rfl ?_
      exact wr_iret (wg_da dt_X9_toSave 31 rfl) h
    · refine wr_aload_n (wg_da dt_X9_toSave 12 rfl) rfl ?_
      refine wr_iload (wg_da dt_X9_toSave 13 rfl) rfl ?_
      refine wr_callVi [.int x4] [] (wg_da dt_X9_toSave 14 rfl) ⟨wq_5_183, wq_5_89, wq_5_90⟩ hx0 ⟨rfl, by decide⟩ wy_X9_hairOf (fun q hq => m_X9_hairOf l E x0 x4 hx0 _ q hq) rfl rfl (Nat.le_of_ble_eq_true rfl) ⟨rfl, rfl, by decide, by decide⟩ h (fun v1 s2 h => ?_)
      refine wr_iload_n (wg_da dt_X9_toSave 15 rfl) rfl ?_
      refine wr_icmp_gt 48 (wg_da dt_X9_toSave 16 rfl) (by decide) h (fun h => ?_) (fun h => ?_)
      · exact wr_wk [true, true, true, true, true] (g_X9_toSave_48 l E (f_X9_toSave_7  n) x0 x1 x2 x3 x4 s2 _ hx0 (fun x0 x1 x2 x3 x4 σ hx0 h => ih x0 x1 x2 x3 x4 σ hx0 h) h)
      · refine wr_aload_n (wg_da dt_X9_toSave 17 rfl) rfl ?_
        refine wr_iload (wg_da dt_X9_toSave 18 rfl) rfl ?_
        refine wr_callVi [.int x4] [] (wg_da dt_X9_toSave 19 rfl) ⟨wq_5_184, wq_5_185, wq_5_186⟩ hx0 ⟨rfl, by decide⟩ wy_X9_worthOf (fun q hq => m_X9_worthOf l E x0 x4 hx0 _ q hq) rfl rfl (Nat.le_of_ble_eq_true rfl) ⟨rfl, rfl, by decide, by decide⟩ h (fun v3 s4 h => ?_)
        refine wr_iload_n (wg_da dt_X9_toSave 20 rfl) rfl ?_
        refine wr_icmp_le 48 (wg_da dt_X9_toSave 21 rfl) (by decide) h (fun h => ?_) (fun h => ?_)
        · exact wr_wk [true, true, true, true, true] (g_X9_toSave_48 l E (f_X9_toSave_7  n) x0 x1 x2 x3 x4 s4 _ hx0 (fun x0 x1 x2 x3 x4 σ hx0 h => ih x0 x1 x2 x3 x4 σ hx0 h) h)
        · refine wr_iload (wg_da dt_X9_toSave 22 rfl) rfl ?_
          refine wr_istore_n (wg_da dt_X9_toSave 23 rfl) (by decide) ?_
          refine wr_aload_n (wg_da dt_X9_toSave 24 rfl) rfl ?_
          refine wr_iload (wg_da dt_X9_toSave 25 rfl) rfl ?_
          refine wr_callVi [.int x4] [] (wg_da dt_X9_toSave 26 rfl) ⟨wq_5_184, wq_5_185, wq_5_186⟩ hx0 ⟨rfl, by decide⟩ wy_X9_worthOf (fun q hq => m_X9_worthOf l E x0 x4 hx0 _ q hq) rfl rfl (Nat.le_of_ble_eq_true rfl) ⟨rfl, rfl, by decide, by decide⟩ h (fun v5 s6 h => ?_)
          refine wr_istore_n (wg_da dt_X9_toSave 27 rfl) (by decide) ?_
          exact wr_wk [true, true, true, true, true] (g_X9_toSave_48 l E (f_X9_toSave_7  n) x0 x1 x4 v5 x4 s6 _ hx0 (fun x0 x1 x2 x3 x4 σ hx0 h => ih x0 x1 x2 x3 x4 σ hx0 h) h)
set_option maxRecDepth 20000 in
theorem g_X9_toSave_e (l : Launch) (E : wg_E)  (x0 : Nat) (x1 : Int32) (σ : wg_M) (z : Int32 × wg_M) (hx0 : wg_t Sc x0 = 11) (h : f_X9_toSave  x0 x1 σ = some z) : wg_G l E Sc "WornWigs$Wigs" cX9_toSave 5 (some .int) rm_X9_toSave (some z.1) z.2 0 [some (.ref x0), some (.int x1), none, none, none] [] σ := by
  refine wr_iconst (0 : Int32) (wg_da dt_X9_toSave 0 rfl) (by decide) ?_
  refine wr_istore_n (wg_da dt_X9_toSave 1 rfl) (by decide) ?_
  refine wr_iconst (0 : Int32) (wg_da dt_X9_toSave 2 rfl) (by decide) ?_
  refine wr_istore_n (wg_da dt_X9_toSave 3 rfl) (by decide) ?_
  refine wr_iconst (1 : Int32) (wg_da dt_X9_toSave 4 rfl) (by decide) ?_
  refine wr_istore (wg_da dt_X9_toSave 5 rfl) (by decide) ?_
  exact wr_wk [true, true, true, true, true] (g_X9_toSave_7 l E  _  wg_N x0 x1 (0 : Int32) (0 : Int32) (1 : Int32) σ hx0 h)
theorem m_X9_toSave (l : Launch) (E : wg_E) (x0 : Nat) (x1 : Int32) (hx0 : wg_t Sc x0 = 11) (σ : wg_M) (q : Int32 × wg_M) (h : f_X9_toSave x0 x1 σ = some q) : wg_MG l E Sc yX9_toSave cX9_toSave 5 (some .int) rm_X9_toSave [.ref x0, .int x1] σ (some q.1) q.2 :=
  wg_met [.ref x0, .int x1] (plainFor_of_name (by decide)) (Nat.le_of_ble_eq_true rfl) (g_X9_toSave_e l E x0 x1 σ q hx0 h)
abbrev rm_X9_wellPulled : Room := { frames := 0, cells := 0, slots := 0, locals := 0 }
def tb_X9_wellPulled : List (Nat × Instr × Nat) := [(0, .iconst 0, 1), (1, .istore_n 2, 1), (2, .iconst 0, 1), (3, .istore_n 3, 1), (4, .iload_n 3, 1), (5, .aload_n 0, 1), (6, .getfield 40, 3), (9, .if_icmp .ge 18, 3), (12, .iload_n 2, 1), (13, .aload_n 0, 1), (14, .getfield 24, 3), (17, .iload_n 3, 1), (18, .iaload, 1), (19, .ixor, 1), (20, .istore_n 2, 1), (21, .iinc 3 1, 3), (24, .goto (-20), 3), (27, .iconst 0, 1), (28, .istore_n 3, 1), (29, .iload_n 3, 1), (30, .aload_n 0, 1), (31, .getfield 40, 3), (34, .if_icmp .ge 48, 3), (37, .aload_n 0, 1), (38, .getfield 24, 3), (41, .iload_n 3, 1), (42, .iaload, 1), (43, .iload_n 2, 1), (44, .ixor, 1), (45, .istore 4, 2), (47, .iload 4, 2), (49, .aload_n 0, 1), (50, .getfield 24, 3), (53, .iload_n 3, 1), (54, .iaload, 1), (55, .if_icmp .ge 21, 3), (58, .iload_n 1, 1), (59, .ifCond .eq 7, 3), (62, .iload_n 3, 1), (63, .goto 12, 3), (66, .aload_n 0, 1), (67, .getfield 24, 3), (70, .iload_n 3, 1), (71, .iaload, 1), (72, .iload 4, 2), (74, .isub, 1), (75, .ireturn, 1), (76, .iinc 3 1, 3), (79, .goto (-50), 3), (82, .iconst (-1), 1), (83, .ireturn, 1)]
theorem dt_X9_wellPulled : wg_dc cX9_wellPulled tb_X9_wellPulled := by unfold wg_dc; decide +kernel
def f_X9_wellPulled_29  : Nat → Nat → Int32 → Int32 → Int32 → wg_M → Option (Int32 × wg_M)
  | 0, _, _, _, _, _ => none
  | n + 1, x0, x1, x2, x3, σ => if (σ x0 8) ≤ x3 then (some ((-1 : Int32), σ)) else (wg_ga (wg_n Sc (wg_r Sc x0 4)) (σ (wg_r Sc x0 4)) x3 (fun v1 => wg_let (v1 ^^^ x2) (fun v2 => wg_ga (wg_n Sc (wg_r Sc x0 4)) (σ (wg_r Sc x0 4)) x3 (fun v3 => if v3 ≤ v2 then (wg_let (x3 + (1 : Int32)) (fun v4 => f_X9_wellPulled_29  n x0 x1 x2 v4 σ)) else (if x1 = 0 then (wg_ga (wg_n Sc (wg_r Sc x0 4)) (σ (wg_r Sc x0 4)) x3 (fun v5 => some (v5 - v2, σ))) else (some (x3, σ)))))))
def f_X9_wellPulled_4  : Nat → Nat → Int32 → Int32 → Int32 → wg_M → Option (Int32 × wg_M)
  | 0, _, _, _, _, _ => none
  | n + 1, x0, x1, x2, x3, σ => if (σ x0 8) ≤ x3 then (f_X9_wellPulled_29  wg_N x0 x1 x2 (0 : Int32) σ) else (wg_ga (wg_n Sc (wg_r Sc x0 4)) (σ (wg_r Sc x0 4)) x3 (fun v1 => wg_let (x2 ^^^ v1) (fun v2 => wg_let (x3 + (1 : Int32)) (fun v3 => f_X9_wellPulled_4  n x0 x1 v2 v3 σ))))
def f_X9_wellPulled  (x0 : Nat) (x1 : Int32) (σ : wg_M) : Option (Int32 × wg_M) := f_X9_wellPulled_4  wg_N x0 x1 (0 : Int32) (0 : Int32) σ
set_option maxRecDepth 20000 in
theorem g_X9_wellPulled_29 (l : Launch) (E : wg_E)  (z : Int32 × wg_M) : ∀ (n : Nat) (x0 : Nat) (x1 : Int32) (x2 : Int32) (x3 : Int32) (σ : wg_M) (hx0 : wg_t Sc x0 = 11) (h : f_X9_wellPulled_29  n x0 x1 x2 x3 σ = some z), wg_G l E Sc "WornWigs$Wigs" cX9_wellPulled 5 (some .int) rm_X9_wellPulled (some z.1) z.2 29 [some (.ref x0), some (.int x1), some (.int x2), some (.int x3), none] [] σ := by
  intro n
  induction n with
  | zero => intro x0 x1 x2 x3 σ hx0 h; cases h
  | succ n ih =>
    intro x0 x1 x2 x3 σ hx0 h
    refine wr_iload_n (wg_da dt_X9_wellPulled 19 rfl) rfl ?_
    refine wr_aload_n (wg_da dt_X9_wellPulled 20 rfl) rfl ?_
    refine wr_getI wf_X9_40 (wg_da dt_X9_wellPulled 21 rfl) hx0 ?_
    refine wr_icmp_ge 82 (wg_da dt_X9_wellPulled 22 rfl) (by decide) h (fun h => ?_) (fun h => ?_)
    · refine wr_iconst (-1 : Int32) (wg_da dt_X9_wellPulled 49 rfl) (by decide) ?_
      exact wr_iret (wg_da dt_X9_wellPulled 50 rfl) h
    · refine wr_aload_n (wg_da dt_X9_wellPulled 23 rfl) rfl ?_
      refine wr_getR wf_X9_24 (wg_da dt_X9_wellPulled 24 rfl) hx0 ?_
      refine wr_iload_n (wg_da dt_X9_wellPulled 25 rfl) rfl ?_
      refine wr_iald (wg_da dt_X9_wellPulled 26 rfl) (wg_ty Sc_ok 9 4 0 hx0 rfl (by decide)).2 h (fun v1 h => ?_)
      refine wr_iload_n (wg_da dt_X9_wellPulled 27 rfl) rfl ?_
      refine wr_ixor (wg_da dt_X9_wellPulled 28 rfl) ?_
      refine wr_let h (fun v2 h => ?_)
      refine wr_istore (wg_da dt_X9_wellPulled 29 rfl) (by decide) ?_
      refine wr_iload (wg_da dt_X9_wellPulled 30 rfl) rfl ?_
      refine wr_aload_n (wg_da dt_X9_wellPulled 31 rfl) rfl ?_
      refine wr_getR wf_X9_24 (wg_da dt_X9_wellPulled 32 rfl) hx0 ?_
      refine wr_iload_n (wg_da dt_X9_wellPulled 33 rfl) rfl ?_
      refine wr_iald (wg_da dt_X9_wellPulled 34 rfl) (wg_ty Sc_ok 9 4 0 hx0 rfl (by decide)).2 h (fun v3 h => ?_)
      refine wr_icmp_ge 76 (wg_da dt_X9_wellPulled 35 rfl) (by decide) h (fun h => ?_) (fun h => ?_)
      · refine wr_iinc (c0 := (1 : Int32)) (wg_da dt_X9_wellPulled 47 rfl) rfl (by decide) (by decide) h (fun v4 h => ?_)
        refine wr_goto 29 (wg_da dt_X9_wellPulled 48 rfl) (by decide) ?_
        exact wr_wk [true, true, true, true, false] (ih x0 x1 x2 v4 σ hx0 h)
      · refine wr_iload_n (wg_da dt_X9_wellPulled 36 rfl) rfl ?_
        refine wr_if_eq 66 (wg_da dt_X9_wellPulled 37 rfl) (by decide) h (fun h => ?_) (fun h => ?_)
        · refine wr_aload_n (wg_da dt_X9_wellPulled 40 rfl) rfl ?_
          refine wr_getR wf_X9_24 (wg_da dt_X9_wellPulled 41 rfl) hx0 ?_
          refine wr_iload_n (wg_da dt_X9_wellPulled 42 rfl) rfl ?_
          refine wr_iald (wg_da dt_X9_wellPulled 43 rfl) (wg_ty Sc_ok 9 4 0 hx0 rfl (by decide)).2 h (fun v5 h => ?_)
          refine wr_iload (wg_da dt_X9_wellPulled 44 rfl) rfl ?_
          refine wr_isub (wg_da dt_X9_wellPulled 45 rfl) ?_
          exact wr_iret (wg_da dt_X9_wellPulled 46 rfl) h
        · refine wr_iload_n (wg_da dt_X9_wellPulled 38 rfl) rfl ?_
          refine wr_goto 75 (wg_da dt_X9_wellPulled 39 rfl) (by decide) ?_
          exact wr_iret (wg_da dt_X9_wellPulled 46 rfl) h
set_option maxRecDepth 20000 in
theorem g_X9_wellPulled_4 (l : Launch) (E : wg_E)  (z : Int32 × wg_M) : ∀ (n : Nat) (x0 : Nat) (x1 : Int32) (x2 : Int32) (x3 : Int32) (σ : wg_M) (hx0 : wg_t Sc x0 = 11) (h : f_X9_wellPulled_4  n x0 x1 x2 x3 σ = some z), wg_G l E Sc "WornWigs$Wigs" cX9_wellPulled 5 (some .int) rm_X9_wellPulled (some z.1) z.2 4 [some (.ref x0), some (.int x1), some (.int x2), some (.int x3), none] [] σ := by
  intro n
  induction n with
  | zero => intro x0 x1 x2 x3 σ hx0 h; cases h
  | succ n ih =>
    intro x0 x1 x2 x3 σ hx0 h
    refine wr_iload_n (wg_da dt_X9_wellPulled 4 rfl) rfl ?_
    refine wr_aload_n (wg_da dt_X9_wellPulled 5 rfl) rfl ?_
    refine wr_getI wf_X9_40 (wg_da dt_X9_wellPulled 6 rfl) hx0 ?_
    refine wr_icmp_ge 27 (wg_da dt_X9_wellPulled 7 rfl) (by decide) h (fun h => ?_) (fun h => ?_)
    · refine wr_iconst (0 : Int32) (wg_da dt_X9_wellPulled 17 rfl) (by decide) ?_
      refine wr_istore_n (wg_da dt_X9_wellPulled 18 rfl) (by decide) ?_
      exact wr_wk [true, true, true, true, false] (g_X9_wellPulled_29 l E  _  wg_N x0 x1 x2 (0 : Int32) σ hx0 h)
    · refine wr_iload_n (wg_da dt_X9_wellPulled 8 rfl) rfl ?_
      refine wr_aload_n (wg_da dt_X9_wellPulled 9 rfl) rfl ?_
      refine wr_getR wf_X9_24 (wg_da dt_X9_wellPulled 10 rfl) hx0 ?_
      refine wr_iload_n (wg_da dt_X9_wellPulled 11 rfl) rfl ?_
      refine wr_iald (wg_da dt_X9_wellPulled 12 rfl) (wg_ty Sc_ok 9 4 0 hx0 rfl (by decide)).2 h (fun v1 h => ?_)
      refine wr_ixor (wg_da dt_X9_wellPulled 13 rfl) ?_
      refine wr_let h (fun v2 h => ?_)
      refine wr_istore_n (wg_da dt_X9_wellPulled 14 rfl) (by decide) ?_
      refine wr_iinc (c0 := (1 : Int32)) (wg_da dt_X9_wellPulled 15 rfl) rfl (by decide) (by decide) h (fun v3 h => ?_)
      refine wr_goto 4 (wg_da dt_X9_wellPulled 16 rfl) (by decide) ?_
      exact wr_wk [true, true, true, true, false] (ih x0 x1 v2 v3 σ hx0 h)
set_option maxRecDepth 20000 in
theorem g_X9_wellPulled_e (l : Launch) (E : wg_E)  (x0 : Nat) (x1 : Int32) (σ : wg_M) (z : Int32 × wg_M) (hx0 : wg_t Sc x0 = 11) (h : f_X9_wellPulled  x0 x1 σ = some z) : wg_G l E Sc "WornWigs$Wigs" cX9_wellPulled 5 (some .int) rm_X9_wellPulled (some z.1) z.2 0 [some (.ref x0), some (.int x1), none, none, none] [] σ := by
  refine wr_iconst (0 : Int32) (wg_da dt_X9_wellPulled 0 rfl) (by decide) ?_
  refine wr_istore_n (wg_da dt_X9_wellPulled 1 rfl) (by decide) ?_
  refine wr_iconst (0 : Int32) (wg_da dt_X9_wellPulled 2 rfl) (by decide) ?_
  refine wr_istore_n (wg_da dt_X9_wellPulled 3 rfl) (by decide) ?_
  exact wr_wk [true, true, true, true, false] (g_X9_wellPulled_4 l E  _  wg_N x0 x1 (0 : Int32) (0 : Int32) σ hx0 h)
theorem m_X9_wellPulled (l : Launch) (E : wg_E) (x0 : Nat) (x1 : Int32) (hx0 : wg_t Sc x0 = 11) (σ : wg_M) (q : Int32 × wg_M) (h : f_X9_wellPulled x0 x1 σ = some q) : wg_MG l E Sc yX9_wellPulled cX9_wellPulled 5 (some .int) rm_X9_wellPulled [.ref x0, .int x1] σ (some q.1) q.2 :=
  wg_met [.ref x0, .int x1] (plainFor_of_name (by decide)) (Nat.le_of_ble_eq_true rfl) (g_X9_wellPulled_e l E x0 x1 σ q hx0 h)
abbrev rm_X10_copyFrom : Room := { frames := 4, cells := 0, slots := 0, locals := 103 }
def tb_X10_copyFrom : List (Nat × Instr × Nat) := [(0, .aload_n 0, 1), (1, .getfield 12, 3), (4, .aload_n 1, 1), (5, .getfield 12, 3), (8, .invokevirtual 50, 3), (11, .aload_n 0, 1), (12, .getfield 23, 3), (15, .aload_n 1, 1), (16, .getfield 23, 3), (19, .invokevirtual 54, 3), (22, .aload_n 0, 1), (23, .getfield 30, 3), (26, .aload_n 1, 1), (27, .getfield 30, 3), (30, .invokevirtual 57, 3), (33, .aload_n 0, 1), (34, .getfield 34, 3), (37, .aload_n 1, 1), (38, .getfield 34, 3), (41, .invokevirtual 54, 3), (44, .aload_n 0, 1), (45, .getfield 37, 3), (48, .aload_n 1, 1), (49, .getfield 37, 3), (52, .invokevirtual 54, 3), (55, .aload_n 0, 1), (56, .getfield 40, 3), (59, .aload_n 1, 1), (60, .getfield 40, 3), (63, .invokevirtual 54, 3), (66, .aload_n 0, 1), (67, .getfield 46, 3), (70, .aload_n 1, 1), (71, .getfield 46, 3), (74, .invokevirtual 60, 3), (77, .return_, 1)]
theorem dt_X10_copyFrom : wg_dc cX10_copyFrom tb_X10_copyFrom := by unfold wg_dc; decide +kernel
def f_X10_copyFrom  (x0 : Nat) (x1 : Nat) (σ : wg_M) : Option (Int32 × wg_M) := wg_bd (f_X0_copyFrom (wg_r Sc x0 0) (wg_r Sc x1 0) σ) (fun _ s1 => wg_bd (f_X4_copyFrom (wg_r Sc x0 1) (wg_r Sc x1 1) s1) (fun _ s2 => wg_bd (f_X3_copyFrom (wg_r Sc x0 2) (wg_r Sc x1 2) s2) (fun _ s3 => wg_bd (f_X4_copyFrom (wg_r Sc x0 3) (wg_r Sc x1 3) s3) (fun _ s4 => wg_bd (f_X4_copyFrom (wg_r Sc x0 4) (wg_r Sc x1 4) s4) (fun _ s5 => wg_bd (f_X4_copyFrom (wg_r Sc x0 5) (wg_r Sc x1 5) s5) (fun _ s6 => wg_bd (f_X8_copyFrom (wg_r Sc x0 6) (wg_r Sc x1 6) s6) (fun _ s7 => some (0, s7))))))))
set_option maxRecDepth 20000 in
theorem g_X10_copyFrom_e (l : Launch) (E : wg_E)  (x0 : Nat) (x1 : Nat) (σ : wg_M) (z : Int32 × wg_M) (hx0 : wg_t Sc x0 = 12) (hx1 : wg_t Sc x1 = 12) (h : f_X10_copyFrom  x0 x1 σ = some z) : wg_G l E Sc "WornWigs$World" cX10_copyFrom 2 none rm_X10_copyFrom none z.2 0 [some (.ref x0), some (.ref x1)] [] σ := by
  refine wr_aload_n (wg_da dt_X10_copyFrom 0 rfl) rfl ?_
  refine wr_getR wf_X10_12 (wg_da dt_X10_copyFrom 1 rfl) hx0 ?_
  refine wr_aload_n (wg_da dt_X10_copyFrom 2 rfl) rfl ?_
  refine wr_getR wf_X10_12 (wg_da dt_X10_copyFrom 3 rfl) hx1 ?_
  refine wr_callVv [.ref (wg_r Sc x1 0)] [] (wg_da dt_X10_copyFrom 4 rfl) ⟨wq_6_103, wq_3_135, wq_3_136⟩ (wg_ty Sc_ok 10 0 2 hx0 rfl (by decide)).2 ⟨rfl, by decide⟩ wy_X0_copyFrom (fun q hq => m_X0_copyFrom l E (wg_r Sc x0 0) (wg_r Sc x1 0) (wg_ty Sc_ok 10 0 2 hx0 rfl (by decide)).2 (wg_ty Sc_ok 10 0 2 hx1 rfl (by decide)).2 _ q hq) rfl rfl (Nat.le_of_ble_eq_true rfl) ⟨rfl, rfl, by decide, by decide⟩ h (fun _ s1 h => ?_)
  refine wr_aload_n (wg_da dt_X10_copyFrom 5 rfl) rfl ?_
  refine wr_getR wf_X10_23 (wg_da dt_X10_copyFrom 6 rfl) hx0 ?_
  refine wr_aload_n (wg_da dt_X10_copyFrom 7 rfl) rfl ?_
  refine wr_getR wf_X10_23 (wg_da dt_X10_copyFrom 8 rfl) hx1 ?_
  refine wr_callVv [.ref (wg_r Sc x1 1)] [] (wg_da dt_X10_copyFrom 9 rfl) ⟨wq_6_104, wq_5_27, wq_5_28⟩ (wg_ty Sc_ok 10 1 6 hx0 rfl (by decide)).2 ⟨rfl, by decide⟩ wy_X4_copyFrom (fun q hq => m_X4_copyFrom l E (wg_r Sc x0 1) (wg_r Sc x1 1) (wg_ty Sc_ok 10 1 6 hx0 rfl (by decide)).2 (wg_ty Sc_ok 10 1 6 hx1 rfl (by decide)).2 _ q hq) rfl rfl (Nat.le_of_ble_eq_true rfl) ⟨rfl, rfl, by decide, by decide⟩ h (fun _ s2 h => ?_)
  refine wr_aload_n (wg_da dt_X10_copyFrom 10 rfl) rfl ?_
  refine wr_getR wf_X10_30 (wg_da dt_X10_copyFrom 11 rfl) hx0 ?_
  refine wr_aload_n (wg_da dt_X10_copyFrom 12 rfl) rfl ?_
  refine wr_getR wf_X10_30 (wg_da dt_X10_copyFrom 13 rfl) hx1 ?_
  refine wr_callVv [.ref (wg_r Sc x1 2)] [] (wg_da dt_X10_copyFrom 14 rfl) ⟨wq_6_105, wq_4_229, wq_4_230⟩ (wg_ty Sc_ok 10 2 5 hx0 rfl (by decide)).2 ⟨rfl, by decide⟩ wy_X3_copyFrom (fun q hq => m_X3_copyFrom l E (wg_r Sc x0 2) (wg_r Sc x1 2) (wg_ty Sc_ok 10 2 5 hx0 rfl (by decide)).2 (wg_ty Sc_ok 10 2 5 hx1 rfl (by decide)).2 _ q hq) rfl rfl (Nat.le_of_ble_eq_true rfl) ⟨rfl, rfl, by decide, by decide⟩ h (fun _ s3 h => ?_)
  refine wr_aload_n (wg_da dt_X10_copyFrom 15 rfl) rfl ?_
  refine wr_getR wf_X10_34 (wg_da dt_X10_copyFrom 16 rfl) hx0 ?_
  refine wr_aload_n (wg_da dt_X10_copyFrom 17 rfl) rfl ?_
  refine wr_getR wf_X10_34 (wg_da dt_X10_copyFrom 18 rfl) hx1 ?_
  refine wr_callVv [.ref (wg_r Sc x1 3)] [] (wg_da dt_X10_copyFrom 19 rfl) ⟨wq_6_104, wq_5_27, wq_5_28⟩ (wg_ty Sc_ok 10 3 6 hx0 rfl (by decide)).2 ⟨rfl, by decide⟩ wy_X4_copyFrom (fun q hq => m_X4_copyFrom l E (wg_r Sc x0 3) (wg_r Sc x1 3) (wg_ty Sc_ok 10 3 6 hx0 rfl (by decide)).2 (wg_ty Sc_ok 10 3 6 hx1 rfl (by decide)).2 _ q hq) rfl rfl (Nat.le_of_ble_eq_true rfl) ⟨rfl, rfl, by decide, by decide⟩ h (fun _ s4 h => ?_)
  refine wr_aload_n (wg_da dt_X10_copyFrom 20 rfl) rfl ?_
  refine wr_getR wf_X10_37 (wg_da dt_X10_copyFrom 21 rfl) hx0 ?_
  refine wr_aload_n (wg_da dt_X10_copyFrom 22 rfl) rfl ?_
  refine wr_getR wf_X10_37 (wg_da dt_X10_copyFrom 23 rfl) hx1 ?_
  refine wr_callVv [.ref (wg_r Sc x1 4)] [] (wg_da dt_X10_copyFrom 24 rfl) ⟨wq_6_104, wq_5_27, wq_5_28⟩ (wg_ty Sc_ok 10 4 6 hx0 rfl (by decide)).2 ⟨rfl, by decide⟩ wy_X4_copyFrom (fun q hq => m_X4_copyFrom l E (wg_r Sc x0 4) (wg_r Sc x1 4) (wg_ty Sc_ok 10 4 6 hx0 rfl (by decide)).2 (wg_ty Sc_ok 10 4 6 hx1 rfl (by decide)).2 _ q hq) rfl rfl (Nat.le_of_ble_eq_true rfl) ⟨rfl, rfl, by decide, by decide⟩ h (fun _ s5 h => ?_)
  refine wr_aload_n (wg_da dt_X10_copyFrom 25 rfl) rfl ?_
  refine wr_getR wf_X10_40 (wg_da dt_X10_copyFrom 26 rfl) hx0 ?_
  refine wr_aload_n (wg_da dt_X10_copyFrom 27 rfl) rfl ?_
  refine wr_getR wf_X10_40 (wg_da dt_X10_copyFrom 28 rfl) hx1 ?_
  refine wr_callVv [.ref (wg_r Sc x1 5)] [] (wg_da dt_X10_copyFrom 29 rfl) ⟨wq_6_104, wq_5_27, wq_5_28⟩ (wg_ty Sc_ok 10 5 6 hx0 rfl (by decide)).2 ⟨rfl, by decide⟩ wy_X4_copyFrom (fun q hq => m_X4_copyFrom l E (wg_r Sc x0 5) (wg_r Sc x1 5) (wg_ty Sc_ok 10 5 6 hx0 rfl (by decide)).2 (wg_ty Sc_ok 10 5 6 hx1 rfl (by decide)).2 _ q hq) rfl rfl (Nat.le_of_ble_eq_true rfl) ⟨rfl, rfl, by decide, by decide⟩ h (fun _ s6 h => ?_)
  refine wr_aload_n (wg_da dt_X10_copyFrom 30 rfl) rfl ?_
  refine wr_getR wf_X10_46 (wg_da dt_X10_copyFrom 31 rfl) hx0 ?_
  refine wr_aload_n (wg_da dt_X10_copyFrom 32 rfl) rfl ?_
  refine wr_getR wf_X10_46 (wg_da dt_X10_copyFrom 33 rfl) hx1 ?_
  refine wr_callVv [.ref (wg_r Sc x1 6)] [] (wg_da dt_X10_copyFrom 34 rfl) ⟨wq_6_106, wq_6_107, wq_6_108⟩ (wg_ty Sc_ok 10 6 10 hx0 rfl (by decide)).2 ⟨rfl, by decide⟩ wy_X8_copyFrom (fun q hq => m_X8_copyFrom l E (wg_r Sc x0 6) (wg_r Sc x1 6) (wg_ty Sc_ok 10 6 10 hx0 rfl (by decide)).2 (wg_ty Sc_ok 10 6 10 hx1 rfl (by decide)).2 _ q hq) rfl rfl (Nat.le_of_ble_eq_true rfl) ⟨rfl, rfl, by decide, by decide⟩ h (fun _ s7 h => ?_)
  exact wr_vret (wg_da dt_X10_copyFrom 35 rfl) h
theorem m_X10_copyFrom (l : Launch) (E : wg_E) (x0 : Nat) (x1 : Nat) (hx0 : wg_t Sc x0 = 12) (hx1 : wg_t Sc x1 = 12) (σ : wg_M) (q : Int32 × wg_M) (h : f_X10_copyFrom x0 x1 σ = some q) : wg_MG l E Sc yX10_copyFrom cX10_copyFrom 2 none rm_X10_copyFrom [.ref x0, .ref x1] σ none q.2 :=
  wg_met [.ref x0, .ref x1] (plainFor_of_name (by decide)) (Nat.le_of_ble_eq_true rfl) (g_X10_copyFrom_e l E x0 x1 σ q hx0 hx1 h)
abbrev rm_X11_state : Room := { frames := 1, cells := 0, slots := 0, locals := 20 }
def tb_X11_state : List (Nat × Instr × Nat) := [(0, .aload_n 0, 1), (1, .getfield 12, 3), (4, .getfield 51, 3), (7, .getfield 55, 3), (10, .istore_n 2, 1), (11, .aload_n 0, 1), (12, .getfield 22, 3), (15, .invokevirtual 61, 3), (18, .aload_n 0, 1), (19, .getfield 12, 3), (22, .getfield 51, 3), (25, .iload_n 1, 1), (26, .putfield 55, 3), (29, .iload_n 2, 1), (30, .ireturn, 1)]
theorem dt_X11_state : wg_dc cX11_state tb_X11_state := by unfold wg_dc; decide +kernel
def f_X11_state  (x0 : Nat) (x1 : Int32) (σ : wg_M) : Option (Int32 × wg_M) := wg_let (σ (wg_r Sc (wg_r Sc x0 0) 0) 8) (fun v1 => wg_bd (f_X5_forget (wg_r Sc x0 2) σ) (fun _ s2 => wg_st s2 (wg_r Sc (wg_r Sc x0 0) 0) 8 x1 (fun s3 => some (v1, s3))))
set_option maxRecDepth 20000 in
theorem g_X11_state_e (l : Launch) (E : wg_E)  (x0 : Nat) (x1 : Int32) (σ : wg_M) (z : Int32 × wg_M) (hx0 : wg_t Sc x0 = 13) (h : f_X11_state  x0 x1 σ = some z) : wg_G l E Sc "WornWigs" cX11_state 3 (some .int) rm_X11_state (some z.1) z.2 0 [some (.ref x0), some (.int x1), none] [] σ := by
  refine wr_aload_n (wg_da dt_X11_state 0 rfl) rfl ?_
  refine wr_getR wf_X11_12 (wg_da dt_X11_state 1 rfl) hx0 ?_
  refine wr_getR wf_X11_51 (wg_da dt_X11_state 2 rfl) (wg_ty Sc_ok 11 0 12 hx0 rfl (by decide)).2 ?_
  refine wr_getI wf_X11_55 (wg_da dt_X11_state 3 rfl) (wg_ty Sc_ok 10 0 2 (wg_ty Sc_ok 11 0 12 hx0 rfl (by decide)).2 rfl (by decide)).2 ?_
  refine wr_let h (fun v1 h => ?_)
  refine wr_istore_n (wg_da dt_X11_state 4 rfl) (by decide) ?_
  refine wr_aload_n (wg_da dt_X11_state 5 rfl) rfl ?_
  refine wr_getR wf_X11_22 (wg_da dt_X11_state 6 rfl) hx0 ?_
  refine wr_callVv [] [] (wg_da dt_X11_state 7 rfl) ⟨wq_3_40, wq_3_41, wq_3_42⟩ (wg_ty Sc_ok 11 2 7 hx0 rfl (by decide)).2 ⟨rfl, by decide⟩ wy_X5_forget (fun q hq => m_X5_forget l E (wg_r Sc x0 2) (wg_ty Sc_ok 11 2 7 hx0 rfl (by decide)).2 _ q hq) rfl rfl (Nat.le_of_ble_eq_true rfl) ⟨rfl, rfl, by decide, by decide⟩ h (fun _ s2 h => ?_)
  refine wr_aload_n (wg_da dt_X11_state 8 rfl) rfl ?_
  refine wr_getR wf_X11_12 (wg_da dt_X11_state 9 rfl) hx0 ?_
  refine wr_getR wf_X11_51 (wg_da dt_X11_state 10 rfl) (wg_ty Sc_ok 11 0 12 hx0 rfl (by decide)).2 ?_
  refine wr_iload_n (wg_da dt_X11_state 11 rfl) rfl ?_
  refine wr_putI wfp_X11_55 (wg_da dt_X11_state 12 rfl) (wg_ty Sc_ok 10 0 2 (wg_ty Sc_ok 11 0 12 hx0 rfl (by decide)).2 rfl (by decide)).2 h (fun s3 h => ?_)
  refine wr_iload_n (wg_da dt_X11_state 13 rfl) rfl ?_
  exact wr_iret (wg_da dt_X11_state 14 rfl) h
theorem m_X11_state (l : Launch) (E : wg_E) (x0 : Nat) (x1 : Int32) (hx0 : wg_t Sc x0 = 13) (σ : wg_M) (q : Int32 × wg_M) (h : f_X11_state x0 x1 σ = some q) : wg_MG l E Sc yX11_state cX11_state 3 (some .int) rm_X11_state [.ref x0, .int x1] σ (some q.1) q.2 :=
  wg_met [.ref x0, .int x1] (plainFor_of_name (by decide)) (Nat.le_of_ble_eq_true rfl) (g_X11_state_e l E x0 x1 σ q hx0 h)
abbrev rm_X11_wig : Room := { frames := 1, cells := 0, slots := 0, locals := 22 }
def tb_X11_wig : List (Nat × Instr × Nat) := [(0, .aload_n 0, 1), (1, .getfield 12, 3), (4, .getfield 51, 3), (7, .getfield 64, 3), (10, .astore_n 3, 1), (11, .aload_n 3, 1), (12, .getfield 68, 3), (15, .bipush 8, 2), (17, .if_icmp .ge 22, 3), (20, .iload_n 1, 1), (21, .iconst 0, 1), (22, .iconst 2, 1), (23, .invokestatic 73, 3), (26, .ifCond .eq 13, 3), (29, .iload_n 2, 1), (30, .iconst 0, 1), (31, .bipush 99, 2), (33, .invokestatic 73, 3), (36, .ifCond .ne 5, 3), (39, .iconst (-1), 1), (40, .ireturn, 1), (41, .aload_n 0, 1), (42, .getfield 22, 3), (45, .invokevirtual 61, 3), (48, .aload_n 3, 1), (49, .iload_n 1, 1), (50, .iload_n 2, 1), (51, .invokevirtual 77, 3), (54, .ireturn, 1)]
theorem dt_X11_wig : wg_dc cX11_wig tb_X11_wig := by unfold wg_dc; decide +kernel
def f_X11_wig  (x0 : Nat) (x1 : Int32) (x2 : Int32) (σ : wg_M) : Option (Int32 × wg_M) := if (8 : Int32) ≤ (σ (wg_r Sc (wg_r Sc (wg_r Sc x0 0) 0) 0) 8) then (some ((-1 : Int32), σ)) else (wg_bd (f_X11_within x1 (0 : Int32) (2 : Int32) σ) (fun v1 s2 => if v1 = 0 then (some ((-1 : Int32), s2)) else (wg_bd (f_X11_within x2 (0 : Int32) (99 : Int32) s2) (fun v3 s4 => if v3 = 0 then (some ((-1 : Int32), s4)) else (wg_bd (f_X5_forget (wg_r Sc x0 2) s4) (fun _ s5 => wg_bd (f_X9_add (wg_r Sc (wg_r Sc (wg_r Sc x0 0) 0) 0) x1 x2 s5) (fun v6 s7 => some (v6, s7))))))))
set_option maxRecDepth 20000 in
theorem g_X11_wig_e (l : Launch) (E : wg_E)  (x0 : Nat) (x1 : Int32) (x2 : Int32) (σ : wg_M) (z : Int32 × wg_M) (hx0 : wg_t Sc x0 = 13) (h : f_X11_wig  x0 x1 x2 σ = some z) : wg_G l E Sc "WornWigs" cX11_wig 4 (some .int) rm_X11_wig (some z.1) z.2 0 [some (.ref x0), some (.int x1), some (.int x2), none] [] σ := by
  refine wr_aload_n (wg_da dt_X11_wig 0 rfl) rfl ?_
  refine wr_getR wf_X11_12 (wg_da dt_X11_wig 1 rfl) hx0 ?_
  refine wr_getR wf_X11_51 (wg_da dt_X11_wig 2 rfl) (wg_ty Sc_ok 11 0 12 hx0 rfl (by decide)).2 ?_
  refine wr_getR wf_X11_64 (wg_da dt_X11_wig 3 rfl) (wg_ty Sc_ok 10 0 2 (wg_ty Sc_ok 11 0 12 hx0 rfl (by decide)).2 rfl (by decide)).2 ?_
  refine wr_astore_n (wg_da dt_X11_wig 4 rfl) (by decide) ?_
  refine wr_aload_n (wg_da dt_X11_wig 5 rfl) rfl ?_
  refine wr_getI wf_X11_68 (wg_da dt_X11_wig 6 rfl) (wg_ty Sc_ok 0 0 11 (wg_ty Sc_ok 10 0 2 (wg_ty Sc_ok 11 0 12 hx0 rfl (by decide)).2 rfl (by decide)).2 rfl (by decide)).2 ?_
  refine wr_bipush (8 : Int32) (wg_da dt_X11_wig 7 rfl) (by decide) ?_
  refine wr_icmp_ge 39 (wg_da dt_X11_wig 8 rfl) (by decide) h (fun h => ?_) (fun h => ?_)
  · refine wr_iconst (-1 : Int32) (wg_da dt_X11_wig 19 rfl) (by decide) ?_
    exact wr_iret (wg_da dt_X11_wig 20 rfl) h
  · refine wr_iload_n (wg_da dt_X11_wig 9 rfl) rfl ?_
    refine wr_iconst (0 : Int32) (wg_da dt_X11_wig 10 rfl) (by decide) ?_
    refine wr_iconst (2 : Int32) (wg_da dt_X11_wig 11 rfl) (by decide) ?_
    refine wr_callSi [.int x1, .int (0 : Int32), .int (2 : Int32)] [] (wg_da dt_X11_wig 12 rfl) ⟨wq_3_48, wq_3_49⟩ wy_X11_within (fun q hq => m_X11_within l E x1 (0 : Int32) (2 : Int32)  _ q hq) rfl rfl (Nat.le_of_ble_eq_true rfl) ⟨rfl, rfl, by decide, by decide⟩ h (fun v1 s2 h => ?_)
    refine wr_if_eq 39 (wg_da dt_X11_wig 13 rfl) (by decide) h (fun h => ?_) (fun h => ?_)
    · refine wr_iconst (-1 : Int32) (wg_da dt_X11_wig 19 rfl) (by decide) ?_
      exact wr_iret (wg_da dt_X11_wig 20 rfl) h
    · refine wr_iload_n (wg_da dt_X11_wig 14 rfl) rfl ?_
      refine wr_iconst (0 : Int32) (wg_da dt_X11_wig 15 rfl) (by decide) ?_
      refine wr_bipush (99 : Int32) (wg_da dt_X11_wig 16 rfl) (by decide) ?_
      refine wr_callSi [.int x2, .int (0 : Int32), .int (99 : Int32)] [] (wg_da dt_X11_wig 17 rfl) ⟨wq_3_48, wq_3_49⟩ wy_X11_within (fun q hq => m_X11_within l E x2 (0 : Int32) (99 : Int32)  _ q hq) rfl rfl (Nat.le_of_ble_eq_true rfl) ⟨rfl, rfl, by decide, by decide⟩ h (fun v3 s4 h => ?_)
      refine wr_if_ne 41 (wg_da dt_X11_wig 18 rfl) (by decide) h (fun h => ?_) (fun h => ?_)
      · refine wr_iconst (-1 : Int32) (wg_da dt_X11_wig 19 rfl) (by decide) ?_
        exact wr_iret (wg_da dt_X11_wig 20 rfl) h
      · refine wr_aload_n (wg_da dt_X11_wig 21 rfl) rfl ?_
        refine wr_getR wf_X11_22 (wg_da dt_X11_wig 22 rfl) hx0 ?_
        refine wr_callVv [] [] (wg_da dt_X11_wig 23 rfl) ⟨wq_3_40, wq_3_41, wq_3_42⟩ (wg_ty Sc_ok 11 2 7 hx0 rfl (by decide)).2 ⟨rfl, by decide⟩ wy_X5_forget (fun q hq => m_X5_forget l E (wg_r Sc x0 2) (wg_ty Sc_ok 11 2 7 hx0 rfl (by decide)).2 _ q hq) rfl rfl (Nat.le_of_ble_eq_true rfl) ⟨rfl, rfl, by decide, by decide⟩ h (fun _ s5 h => ?_)
        refine wr_aload_n (wg_da dt_X11_wig 24 rfl) rfl ?_
        refine wr_iload_n (wg_da dt_X11_wig 25 rfl) rfl ?_
        refine wr_iload_n (wg_da dt_X11_wig 26 rfl) rfl ?_
        refine wr_callVi [.int x1, .int x2] [] (wg_da dt_X11_wig 27 rfl) ⟨wq_3_51, wq_3_52, wq_3_53⟩ (wg_ty Sc_ok 0 0 11 (wg_ty Sc_ok 10 0 2 (wg_ty Sc_ok 11 0 12 hx0 rfl (by decide)).2 rfl (by decide)).2 rfl (by decide)).2 ⟨rfl, by decide⟩ wy_X9_add (fun q hq => m_X9_add l E (wg_r Sc (wg_r Sc (wg_r Sc x0 0) 0) 0) x1 x2 (wg_ty Sc_ok 0 0 11 (wg_ty Sc_ok 10 0 2 (wg_ty Sc_ok 11 0 12 hx0 rfl (by decide)).2 rfl (by decide)).2 rfl (by decide)).2 _ q hq) rfl rfl (Nat.le_of_ble_eq_true rfl) ⟨rfl, rfl, by decide, by decide⟩ h (fun v6 s7 h => ?_)
        exact wr_iret (wg_da dt_X11_wig 28 rfl) h
theorem m_X11_wig (l : Launch) (E : wg_E) (x0 : Nat) (x1 : Int32) (x2 : Int32) (hx0 : wg_t Sc x0 = 13) (σ : wg_M) (q : Int32 × wg_M) (h : f_X11_wig x0 x1 x2 σ = some q) : wg_MG l E Sc yX11_wig cX11_wig 4 (some .int) rm_X11_wig [.ref x0, .int x1, .int x2] σ (some q.1) q.2 :=
  wg_met [.ref x0, .int x1, .int x2] (plainFor_of_name (by decide)) (Nat.le_of_ble_eq_true rfl) (g_X11_wig_e l E x0 x1 x2 σ q hx0 h)
abbrev rm_X11_judge : Room := { frames := 1, cells := 0, slots := 0, locals := 22 }
def tb_X11_judge : List (Nat × Instr × Nat) := [(0, .aload_n 0, 1), (1, .getfield 12, 3), (4, .getfield 51, 3), (7, .getfield 81, 3), (10, .astore_n 3, 1), (11, .aload_n 3, 1), (12, .getfield 85, 3), (15, .bipush 10, 2), (17, .if_icmp .ge 24, 3), (20, .iload_n 1, 1), (21, .iconst 0, 1), (22, .bipush 120, 2), (24, .invokestatic 73, 3), (27, .ifCond .eq 14, 3), (30, .iload_n 2, 1), (31, .bipush (-9), 2), (33, .bipush 9, 2), (35, .invokestatic 73, 3), (38, .ifCond .ne 5, 3), (41, .iconst (-1), 1), (42, .ireturn, 1), (43, .aload_n 0, 1), (44, .getfield 22, 3), (47, .invokevirtual 61, 3), (50, .aload_n 3, 1), (51, .iload_n 1, 1), (52, .iload_n 2, 1), (53, .invokevirtual 88, 3), (56, .ireturn, 1)]
theorem dt_X11_judge : wg_dc cX11_judge tb_X11_judge := by unfold wg_dc; decide +kernel
def f_X11_judge  (x0 : Nat) (x1 : Int32) (x2 : Int32) (σ : wg_M) : Option (Int32 × wg_M) := if (10 : Int32) ≤ (σ (wg_r Sc (wg_r Sc (wg_r Sc x0 0) 0) 1) 5) then (some ((-1 : Int32), σ)) else (wg_bd (f_X11_within x1 (0 : Int32) (120 : Int32) σ) (fun v1 s2 => if v1 = 0 then (some ((-1 : Int32), s2)) else (wg_bd (f_X11_within x2 (-9 : Int32) (9 : Int32) s2) (fun v3 s4 => if v3 = 0 then (some ((-1 : Int32), s4)) else (wg_bd (f_X5_forget (wg_r Sc x0 2) s4) (fun _ s5 => wg_bd (f_X2_add (wg_r Sc (wg_r Sc (wg_r Sc x0 0) 0) 1) x1 x2 s5) (fun v6 s7 => some (v6, s7))))))))
set_option maxRecDepth 20000 in
theorem g_X11_judge_e (l : Launch) (E : wg_E)  (x0 : Nat) (x1 : Int32) (x2 : Int32) (σ : wg_M) (z : Int32 × wg_M) (hx0 : wg_t Sc x0 = 13) (h : f_X11_judge  x0 x1 x2 σ = some z) : wg_G l E Sc "WornWigs" cX11_judge 4 (some .int) rm_X11_judge (some z.1) z.2 0 [some (.ref x0), some (.int x1), some (.int x2), none] [] σ := by
  refine wr_aload_n (wg_da dt_X11_judge 0 rfl) rfl ?_
  refine wr_getR wf_X11_12 (wg_da dt_X11_judge 1 rfl) hx0 ?_
  refine wr_getR wf_X11_51 (wg_da dt_X11_judge 2 rfl) (wg_ty Sc_ok 11 0 12 hx0 rfl (by decide)).2 ?_
  refine wr_getR wf_X11_81 (wg_da dt_X11_judge 3 rfl) (wg_ty Sc_ok 10 0 2 (wg_ty Sc_ok 11 0 12 hx0 rfl (by decide)).2 rfl (by decide)).2 ?_
  refine wr_astore_n (wg_da dt_X11_judge 4 rfl) (by decide) ?_
  refine wr_aload_n (wg_da dt_X11_judge 5 rfl) rfl ?_
  refine wr_getI wf_X11_85 (wg_da dt_X11_judge 6 rfl) (wg_ty Sc_ok 0 1 4 (wg_ty Sc_ok 10 0 2 (wg_ty Sc_ok 11 0 12 hx0 rfl (by decide)).2 rfl (by decide)).2 rfl (by decide)).2 ?_
  refine wr_bipush (10 : Int32) (wg_da dt_X11_judge 7 rfl) (by decide) ?_
  refine wr_icmp_ge 41 (wg_da dt_X11_judge 8 rfl) (by decide) h (fun h => ?_) (fun h => ?_)
  · refine wr_iconst (-1 : Int32) (wg_da dt_X11_judge 19 rfl) (by decide) ?_
    exact wr_iret (wg_da dt_X11_judge 20 rfl) h
  · refine wr_iload_n (wg_da dt_X11_judge 9 rfl) rfl ?_
    refine wr_iconst (0 : Int32) (wg_da dt_X11_judge 10 rfl) (by decide) ?_
    refine wr_bipush (120 : Int32) (wg_da dt_X11_judge 11 rfl) (by decide) ?_
    refine wr_callSi [.int x1, .int (0 : Int32), .int (120 : Int32)] [] (wg_da dt_X11_judge 12 rfl) ⟨wq_3_48, wq_3_49⟩ wy_X11_within (fun q hq => m_X11_within l E x1 (0 : Int32) (120 : Int32)  _ q hq) rfl rfl (Nat.le_of_ble_eq_true rfl) ⟨rfl, rfl, by decide, by decide⟩ h (fun v1 s2 h => ?_)
    refine wr_if_eq 41 (wg_da dt_X11_judge 13 rfl) (by decide) h (fun h => ?_) (fun h => ?_)
    · refine wr_iconst (-1 : Int32) (wg_da dt_X11_judge 19 rfl) (by decide) ?_
      exact wr_iret (wg_da dt_X11_judge 20 rfl) h
    · refine wr_iload_n (wg_da dt_X11_judge 14 rfl) rfl ?_
      refine wr_bipush (-9 : Int32) (wg_da dt_X11_judge 15 rfl) (by decide) ?_
      refine wr_bipush (9 : Int32) (wg_da dt_X11_judge 16 rfl) (by decide) ?_
      refine wr_callSi [.int x2, .int (-9 : Int32), .int (9 : Int32)] [] (wg_da dt_X11_judge 17 rfl) ⟨wq_3_48, wq_3_49⟩ wy_X11_within (fun q hq => m_X11_within l E x2 (-9 : Int32) (9 : Int32)  _ q hq) rfl rfl (Nat.le_of_ble_eq_true rfl) ⟨rfl, rfl, by decide, by decide⟩ h (fun v3 s4 h => ?_)
      refine wr_if_ne 43 (wg_da dt_X11_judge 18 rfl) (by decide) h (fun h => ?_) (fun h => ?_)
      · refine wr_iconst (-1 : Int32) (wg_da dt_X11_judge 19 rfl) (by decide) ?_
        exact wr_iret (wg_da dt_X11_judge 20 rfl) h
      · refine wr_aload_n (wg_da dt_X11_judge 21 rfl) rfl ?_
        refine wr_getR wf_X11_22 (wg_da dt_X11_judge 22 rfl) hx0 ?_
        refine wr_callVv [] [] (wg_da dt_X11_judge 23 rfl) ⟨wq_3_40, wq_3_41, wq_3_42⟩ (wg_ty Sc_ok 11 2 7 hx0 rfl (by decide)).2 ⟨rfl, by decide⟩ wy_X5_forget (fun q hq => m_X5_forget l E (wg_r Sc x0 2) (wg_ty Sc_ok 11 2 7 hx0 rfl (by decide)).2 _ q hq) rfl rfl (Nat.le_of_ble_eq_true rfl) ⟨rfl, rfl, by decide, by decide⟩ h (fun _ s5 h => ?_)
        refine wr_aload_n (wg_da dt_X11_judge 24 rfl) rfl ?_
        refine wr_iload_n (wg_da dt_X11_judge 25 rfl) rfl ?_
        refine wr_iload_n (wg_da dt_X11_judge 26 rfl) rfl ?_
        refine wr_callVi [.int x1, .int x2] [] (wg_da dt_X11_judge 27 rfl) ⟨wq_3_59, wq_3_60, wq_3_61⟩ (wg_ty Sc_ok 0 1 4 (wg_ty Sc_ok 10 0 2 (wg_ty Sc_ok 11 0 12 hx0 rfl (by decide)).2 rfl (by decide)).2 rfl (by decide)).2 ⟨rfl, by decide⟩ wy_X2_add (fun q hq => m_X2_add l E (wg_r Sc (wg_r Sc (wg_r Sc x0 0) 0) 1) x1 x2 (wg_ty Sc_ok 0 1 4 (wg_ty Sc_ok 10 0 2 (wg_ty Sc_ok 11 0 12 hx0 rfl (by decide)).2 rfl (by decide)).2 rfl (by decide)).2 _ q hq) rfl rfl (Nat.le_of_ble_eq_true rfl) ⟨rfl, rfl, by decide, by decide⟩ h (fun v6 s7 h => ?_)
        exact wr_iret (wg_da dt_X11_judge 28 rfl) h
theorem m_X11_judge (l : Launch) (E : wg_E) (x0 : Nat) (x1 : Int32) (x2 : Int32) (hx0 : wg_t Sc x0 = 13) (σ : wg_M) (q : Int32 × wg_M) (h : f_X11_judge x0 x1 x2 σ = some q) : wg_MG l E Sc yX11_judge cX11_judge 4 (some .int) rm_X11_judge [.ref x0, .int x1, .int x2] σ (some q.1) q.2 :=
  wg_met [.ref x0, .int x1, .int x2] (plainFor_of_name (by decide)) (Nat.le_of_ble_eq_true rfl) (g_X11_judge_e l E x0 x1 x2 σ q hx0 h)
abbrev rm_X11_trial : Room := { frames := 1, cells := 0, slots := 0, locals := 22 }
def tb_X11_trial : List (Nat × Instr × Nat) := [(0, .aload_n 0, 1), (1, .getfield 12, 3), (4, .getfield 51, 3), (7, .astore_n 3, 1), (8, .aload_n 3, 1), (9, .getfield 89, 3), (12, .bipush 14, 2), (14, .if_icmp .ge 24, 3), (17, .iload_n 1, 1), (18, .iconst 0, 1), (19, .bipush 7, 2), (21, .invokestatic 73, 3), (24, .ifCond .eq 14, 3), (27, .iload_n 2, 1), (28, .bipush (-99), 2), (30, .bipush 99, 2), (32, .invokestatic 73, 3), (35, .ifCond .ne 5, 3), (38, .iconst (-1), 1), (39, .ireturn, 1), (40, .aload_n 0, 1), (41, .getfield 22, 3), (44, .invokevirtual 61, 3), (47, .aload_n 3, 1), (48, .iload_n 1, 1), (49, .iload_n 2, 1), (50, .invokevirtual 92, 3), (53, .ireturn, 1)]
theorem dt_X11_trial : wg_dc cX11_trial tb_X11_trial := by unfold wg_dc; decide +kernel
def f_X11_trial  (x0 : Nat) (x1 : Int32) (x2 : Int32) (σ : wg_M) : Option (Int32 × wg_M) := if (14 : Int32) ≤ (σ (wg_r Sc (wg_r Sc x0 0) 0) 6) then (some ((-1 : Int32), σ)) else (wg_bd (f_X11_within x1 (0 : Int32) (7 : Int32) σ) (fun v1 s2 => if v1 = 0 then (some ((-1 : Int32), s2)) else (wg_bd (f_X11_within x2 (-99 : Int32) (99 : Int32) s2) (fun v3 s4 => if v3 = 0 then (some ((-1 : Int32), s4)) else (wg_bd (f_X5_forget (wg_r Sc x0 2) s4) (fun _ s5 => wg_bd (f_X0_addCase (wg_r Sc (wg_r Sc x0 0) 0) x1 x2 s5) (fun v6 s7 => some (v6, s7))))))))
set_option maxRecDepth 20000 in
theorem g_X11_trial_e (l : Launch) (E : wg_E)  (x0 : Nat) (x1 : Int32) (x2 : Int32) (σ : wg_M) (z : Int32 × wg_M) (hx0 : wg_t Sc x0 = 13) (h : f_X11_trial  x0 x1 x2 σ = some z) : wg_G l E Sc "WornWigs" cX11_trial 4 (some .int) rm_X11_trial (some z.1) z.2 0 [some (.ref x0), some (.int x1), some (.int x2), none] [] σ := by
  refine wr_aload_n (wg_da dt_X11_trial 0 rfl) rfl ?_
  refine wr_getR wf_X11_12 (wg_da dt_X11_trial 1 rfl) hx0 ?_
  refine wr_getR wf_X11_51 (wg_da dt_X11_trial 2 rfl) (wg_ty Sc_ok 11 0 12 hx0 rfl (by decide)).2 ?_
  refine wr_astore_n (wg_da dt_X11_trial 3 rfl) (by decide) ?_
  refine wr_aload_n (wg_da dt_X11_trial 4 rfl) rfl ?_
  refine wr_getI wf_X11_89 (wg_da dt_X11_trial 5 rfl) (wg_ty Sc_ok 10 0 2 (wg_ty Sc_ok 11 0 12 hx0 rfl (by decide)).2 rfl (by decide)).2 ?_
  refine wr_bipush (14 : Int32) (wg_da dt_X11_trial 6 rfl) (by decide) ?_
  refine wr_icmp_ge 38 (wg_da dt_X11_trial 7 rfl) (by decide) h (fun h => ?_) (fun h => ?_)
  · refine wr_iconst (-1 : Int32) (wg_da dt_X11_trial 18 rfl) (by decide) ?_
    exact wr_iret (wg_da dt_X11_trial 19 rfl) h
  · refine wr_iload_n (wg_da dt_X11_trial 8 rfl) rfl ?_
    refine wr_iconst (0 : Int32) (wg_da dt_X11_trial 9 rfl) (by decide) ?_
    refine wr_bipush (7 : Int32) (wg_da dt_X11_trial 10 rfl) (by decide) ?_
    refine wr_callSi [.int x1, .int (0 : Int32), .int (7 : Int32)] [] (wg_da dt_X11_trial 11 rfl) ⟨wq_3_48, wq_3_49⟩ wy_X11_within (fun q hq => m_X11_within l E x1 (0 : Int32) (7 : Int32)  _ q hq) rfl rfl (Nat.le_of_ble_eq_true rfl) ⟨rfl, rfl, by decide, by decide⟩ h (fun v1 s2 h => ?_)
    refine wr_if_eq 38 (wg_da dt_X11_trial 12 rfl) (by decide) h (fun h => ?_) (fun h => ?_)
    · refine wr_iconst (-1 : Int32) (wg_da dt_X11_trial 18 rfl) (by decide) ?_
      exact wr_iret (wg_da dt_X11_trial 19 rfl) h
    · refine wr_iload_n (wg_da dt_X11_trial 13 rfl) rfl ?_
      refine wr_bipush (-99 : Int32) (wg_da dt_X11_trial 14 rfl) (by decide) ?_
      refine wr_bipush (99 : Int32) (wg_da dt_X11_trial 15 rfl) (by decide) ?_
      refine wr_callSi [.int x2, .int (-99 : Int32), .int (99 : Int32)] [] (wg_da dt_X11_trial 16 rfl) ⟨wq_3_48, wq_3_49⟩ wy_X11_within (fun q hq => m_X11_within l E x2 (-99 : Int32) (99 : Int32)  _ q hq) rfl rfl (Nat.le_of_ble_eq_true rfl) ⟨rfl, rfl, by decide, by decide⟩ h (fun v3 s4 h => ?_)
      refine wr_if_ne 40 (wg_da dt_X11_trial 17 rfl) (by decide) h (fun h => ?_) (fun h => ?_)
      · refine wr_iconst (-1 : Int32) (wg_da dt_X11_trial 18 rfl) (by decide) ?_
        exact wr_iret (wg_da dt_X11_trial 19 rfl) h
      · refine wr_aload_n (wg_da dt_X11_trial 20 rfl) rfl ?_
        refine wr_getR wf_X11_22 (wg_da dt_X11_trial 21 rfl) hx0 ?_
        refine wr_callVv [] [] (wg_da dt_X11_trial 22 rfl) ⟨wq_3_40, wq_3_41, wq_3_42⟩ (wg_ty Sc_ok 11 2 7 hx0 rfl (by decide)).2 ⟨rfl, by decide⟩ wy_X5_forget (fun q hq => m_X5_forget l E (wg_r Sc x0 2) (wg_ty Sc_ok 11 2 7 hx0 rfl (by decide)).2 _ q hq) rfl rfl (Nat.le_of_ble_eq_true rfl) ⟨rfl, rfl, by decide, by decide⟩ h (fun _ s5 h => ?_)
        refine wr_aload_n (wg_da dt_X11_trial 23 rfl) rfl ?_
        refine wr_iload_n (wg_da dt_X11_trial 24 rfl) rfl ?_
        refine wr_iload_n (wg_da dt_X11_trial 25 rfl) rfl ?_
        refine wr_callVi [.int x1, .int x2] [] (wg_da dt_X11_trial 26 rfl) ⟨wq_3_67, wq_3_68, wq_3_69⟩ (wg_ty Sc_ok 10 0 2 (wg_ty Sc_ok 11 0 12 hx0 rfl (by decide)).2 rfl (by decide)).2 ⟨rfl, by decide⟩ wy_X0_addCase (fun q hq => m_X0_addCase l E (wg_r Sc (wg_r Sc x0 0) 0) x1 x2 (wg_ty Sc_ok 10 0 2 (wg_ty Sc_ok 11 0 12 hx0 rfl (by decide)).2 rfl (by decide)).2 _ q hq) rfl rfl (Nat.le_of_ble_eq_true rfl) ⟨rfl, rfl, by decide, by decide⟩ h (fun v6 s7 h => ?_)
        exact wr_iret (wg_da dt_X11_trial 27 rfl) h
theorem m_X11_trial (l : Launch) (E : wg_E) (x0 : Nat) (x1 : Int32) (x2 : Int32) (hx0 : wg_t Sc x0 = 13) (σ : wg_M) (q : Int32 × wg_M) (h : f_X11_trial x0 x1 x2 σ = some q) : wg_MG l E Sc yX11_trial cX11_trial 4 (some .int) rm_X11_trial [.ref x0, .int x1, .int x2] σ (some q.1) q.2 :=
  wg_met [.ref x0, .int x1, .int x2] (plainFor_of_name (by decide)) (Nat.le_of_ble_eq_true rfl) (g_X11_trial_e l E x0 x1 x2 σ q hx0 h)
abbrev rm_X11_rule : Room := { frames := 3, cells := 0, slots := 0, locals := 74 }
def tb_X11_rule : List (Nat × Instr × Nat) := [(0, .aload_n 0, 1), (1, .getfield 12, 3), (4, .getfield 51, 3), (7, .getfield 64, 3), (10, .astore 5, 2), (12, .aload 5, 2), (14, .iload_n 1, 1), (15, .invokevirtual 95, 3), (18, .ifCond .eq 25, 3), (21, .aload 5, 2), (23, .getfield 99, 3), (26, .iload_n 1, 1), (27, .iaload, 1), (28, .bipush 8, 2), (30, .if_icmp .ge 13, 3), (33, .iload_n 2, 1), (34, .iconst 0, 1), (35, .bipush 7, 2), (37, .invokestatic 73, 3), (40, .ifCond .ne 5, 3), (43, .iconst (-1), 1), (44, .ireturn, 1), (45, .iload_n 3, 1), (46, .bipush (-9), 2), (48, .bipush 9, 2), (50, .invokestatic 73, 3), (53, .ifCond .eq 14, 3), (56, .iload 4, 2), (58, .iconst 1, 1), (59, .bipush 99, 2), (61, .invokestatic 73, 3), (64, .ifCond .ne 5, 3), (67, .iconst (-1), 1), (68, .ireturn, 1), (69, .aload_n 0, 1), (70, .getfield 22, 3), (73, .invokevirtual 61, 3), (76, .aload 5, 2), (78, .iload_n 1, 1), (79, .iload_n 2, 1), (80, .iload_n 3, 1), (81, .iload 4, 2), (83, .invokevirtual 103, 3), (86, .aload 5, 2), (88, .getfield 99, 3), (91, .iload_n 1, 1), (92, .iaload, 1), (93, .ireturn, 1)]
theorem dt_X11_rule : wg_dc cX11_rule tb_X11_rule := by unfold wg_dc; decide +kernel
def f_X11_rule  (x0 : Nat) (x1 : Int32) (x2 : Int32) (x3 : Int32) (x4 : Int32) (σ : wg_M) : Option (Int32 × wg_M) := wg_bd (f_X9_has (wg_r Sc (wg_r Sc (wg_r Sc x0 0) 0) 0) x1 σ) (fun v1 s2 => if v1 = 0 then (some ((-1 : Int32), s2)) else (wg_ga (wg_n Sc (wg_r Sc (wg_r Sc (wg_r Sc (wg_r Sc x0 0) 0) 0) 4)) (s2 (wg_r Sc (wg_r Sc (wg_r Sc (wg_r Sc x0 0) 0) 0) 4)) x1 (fun v3 => if (8 : Int32) ≤ v3 then (some ((-1 : Int32), s2)) else (wg_bd (f_X11_within x2 (0 : Int32) (7 : Int32) s2) (fun v4 s5 => if v4 = 0 then (some ((-1 : Int32), s5)) else (wg_bd (f_X11_within x3 (-9 : Int32) (9 : Int32) s5) (fun v6 s7 => if v6 = 0 then (some ((-1 : Int32), s7)) else (wg_bd (f_X11_within x4 (1 : Int32) (99 : Int32) s7) (fun v8 s9 => if v8 = 0 then (some ((-1 : Int32), s9)) else (wg_bd (f_X5_forget (wg_r Sc x0 2) s9) (fun _ s10 => wg_bd (f_X9_addRule (wg_r Sc (wg_r Sc (wg_r Sc x0 0) 0) 0) x1 x2 x3 x4 s10) (fun _ s11 => wg_ga (wg_n Sc (wg_r Sc (wg_r Sc (wg_r Sc (wg_r Sc x0 0) 0) 0) 4)) (s11 (wg_r Sc (wg_r Sc (wg_r Sc (wg_r Sc x0 0) 0) 0) 4)) x1 (fun v12 => some (v12, s11))))))))))))))
set_option maxRecDepth 20000 in
theorem g_X11_rule_e (l : Launch) (E : wg_E)  (x0 : Nat) (x1 : Int32) (x2 : Int32) (x3 : Int32) (x4 : Int32) (σ : wg_M) (z : Int32 × wg_M) (hx0 : wg_t Sc x0 = 13) (h : f_X11_rule  x0 x1 x2 x3 x4 σ = some z) : wg_G l E Sc "WornWigs" cX11_rule 6 (some .int) rm_X11_rule (some z.1) z.2 0 [some (.ref x0), some (.int x1), some (.int x2), some (.int x3), some (.int x4), none] [] σ := by
  refine wr_aload_n (wg_da dt_X11_rule 0 rfl) rfl ?_
  refine wr_getR wf_X11_12 (wg_da dt_X11_rule 1 rfl) hx0 ?_
  refine wr_getR wf_X11_51 (wg_da dt_X11_rule 2 rfl) (wg_ty Sc_ok 11 0 12 hx0 rfl (by decide)).2 ?_
  refine wr_getR wf_X11_64 (wg_da dt_X11_rule 3 rfl) (wg_ty Sc_ok 10 0 2 (wg_ty Sc_ok 11 0 12 hx0 rfl (by decide)).2 rfl (by decide)).2 ?_
  refine wr_astore (wg_da dt_X11_rule 4 rfl) (by decide) ?_
  refine wr_aload (wg_da dt_X11_rule 5 rfl) rfl ?_
  refine wr_iload_n (wg_da dt_X11_rule 6 rfl) rfl ?_
  refine wr_callVi [.int x1] [] (wg_da dt_X11_rule 7 rfl) ⟨wq_3_75, wq_3_76, wq_3_77⟩ (wg_ty Sc_ok 0 0 11 (wg_ty Sc_ok 10 0 2 (wg_ty Sc_ok 11 0 12 hx0 rfl (by decide)).2 rfl (by decide)).2 rfl (by decide)).2 ⟨rfl, by decide⟩ wy_X9_has (fun q hq => m_X9_has l E (wg_r Sc (wg_r Sc (wg_r Sc x0 0) 0) 0) x1 (wg_ty Sc_ok 0 0 11 (wg_ty Sc_ok 10 0 2 (wg_ty Sc_ok 11 0 12 hx0 rfl (by decide)).2 rfl (by decide)).2 rfl (by decide)).2 _ q hq) rfl rfl (Nat.le_of_ble_eq_true rfl) ⟨rfl, rfl, by decide, by decide⟩ h (fun v1 s2 h => ?_)
  refine wr_if_eq 43 (wg_da dt_X11_rule 8 rfl) (by decide) h (fun h => ?_) (fun h => ?_)
  · refine wr_iconst (-1 : Int32) (wg_da dt_X11_rule 20 rfl) (by decide) ?_
    exact wr_iret (wg_da dt_X11_rule 21 rfl) h
  · refine wr_aload (wg_da dt_X11_rule 9 rfl) rfl ?_
    refine wr_getR wf_X11_99 (wg_da dt_X11_rule 10 rfl) (wg_ty Sc_ok 0 0 11 (wg_ty Sc_ok 10 0 2 (wg_ty Sc_ok 11 0 12 hx0 rfl (by decide)).2 rfl (by decide)).2 rfl (by decide)).2 ?_
    refine wr_iload_n (wg_da dt_X11_rule 11 rfl) rfl ?_
    refine wr_iald (wg_da dt_X11_rule 12 rfl) (wg_ty Sc_ok 9 4 0 (wg_ty Sc_ok 0 0 11 (wg_ty Sc_ok 10 0 2 (wg_ty Sc_ok 11 0 12 hx0 rfl (by decide)).2 rfl (by decide)).2 rfl (by decide)).2 rfl (by decide)).2 h (fun v3 h => ?_)
    refine wr_bipush (8 : Int32) (wg_da dt_X11_rule 13 rfl) (by decide) ?_
    refine wr_icmp_ge 43 (wg_da dt_X11_rule 14 rfl) (by decide) h (fun h => ?_) (fun h => ?_)
    · refine wr_iconst (-1 : Int32) (wg_da dt_X11_rule 20 rfl) (by decide) ?_
      exact wr_iret (wg_da dt_X11_rule 21 rfl) h
    · refine wr_iload_n (wg_da dt_X11_rule 15 rfl) rfl ?_
      refine wr_iconst (0 : Int32) (wg_da dt_X11_rule 16 rfl) (by decide) ?_
      refine wr_bipush (7 : Int32) (wg_da dt_X11_rule 17 rfl) (by decide) ?_
      refine wr_callSi [.int x2, .int (0 : Int32), .int (7 : Int32)] [] (wg_da dt_X11_rule 18 rfl) ⟨wq_3_48, wq_3_49⟩ wy_X11_within (fun q hq => m_X11_within l E x2 (0 : Int32) (7 : Int32)  _ q hq) rfl rfl (Nat.le_of_ble_eq_true rfl) ⟨rfl, rfl, by decide, by decide⟩ h (fun v4 s5 h => ?_)
      refine wr_if_ne 45 (wg_da dt_X11_rule 19 rfl) (by decide) h (fun h => ?_) (fun h => ?_)
      · refine wr_iconst (-1 : Int32) (wg_da dt_X11_rule 20 rfl) (by decide) ?_
        exact wr_iret (wg_da dt_X11_rule 21 rfl) h
      · refine wr_iload_n (wg_da dt_X11_rule 22 rfl) rfl ?_
        refine wr_bipush (-9 : Int32) (wg_da dt_X11_rule 23 rfl) (by decide) ?_
        refine wr_bipush (9 : Int32) (wg_da dt_X11_rule 24 rfl) (by decide) ?_
        refine wr_callSi [.int x3, .int (-9 : Int32), .int (9 : Int32)] [] (wg_da dt_X11_rule 25 rfl) ⟨wq_3_48, wq_3_49⟩ wy_X11_within (fun q hq => m_X11_within l E x3 (-9 : Int32) (9 : Int32)  _ q hq) rfl rfl (Nat.le_of_ble_eq_true rfl) ⟨rfl, rfl, by decide, by decide⟩ h (fun v6 s7 h => ?_)
        refine wr_if_eq 67 (wg_da dt_X11_rule 26 rfl) (by decide) h (fun h => ?_) (fun h => ?_)
        · refine wr_iconst (-1 : Int32) (wg_da dt_X11_rule 32 rfl) (by decide) ?_
          exact wr_iret (wg_da dt_X11_rule 33 rfl) h
        · refine wr_iload (wg_da dt_X11_rule 27 rfl) rfl ?_
          refine wr_iconst (1 : Int32) (wg_da dt_X11_rule 28 rfl) (by decide) ?_
          refine wr_bipush (99 : Int32) (wg_da dt_X11_rule 29 rfl) (by decide) ?_
          refine wr_callSi [.int x4, .int (1 : Int32), .int (99 : Int32)] [] (wg_da dt_X11_rule 30 rfl) ⟨wq_3_48, wq_3_49⟩ wy_X11_within (fun q hq => m_X11_within l E x4 (1 : Int32) (99 : Int32)  _ q hq) rfl rfl (Nat.le_of_ble_eq_true rfl) ⟨rfl, rfl, by decide, by decide⟩ h (fun v8 s9 h => ?_)
          refine wr_if_ne 69 (wg_da dt_X11_rule 31 rfl) (by decide) h (fun h => ?_) (fun h => ?_)
          · refine wr_iconst (-1 : Int32) (wg_da dt_X11_rule 32 rfl) (by decide) ?_
            exact wr_iret (wg_da dt_X11_rule 33 rfl) h
          · refine wr_aload_n (wg_da dt_X11_rule 34 rfl) rfl ?_
            refine wr_getR wf_X11_22 (wg_da dt_X11_rule 35 rfl) hx0 ?_
            refine wr_callVv [] [] (wg_da dt_X11_rule 36 rfl) ⟨wq_3_40, wq_3_41, wq_3_42⟩ (wg_ty Sc_ok 11 2 7 hx0 rfl (by decide)).2 ⟨rfl, by decide⟩ wy_X5_forget (fun q hq => m_X5_forget l E (wg_r Sc x0 2) (wg_ty Sc_ok 11 2 7 hx0 rfl (by decide)).2 _ q hq) rfl rfl (Nat.le_of_ble_eq_true rfl) ⟨rfl, rfl, by decide, by decide⟩ h (fun _ s10 h => ?_)
            refine wr_aload (wg_da dt_X11_rule 37 rfl) rfl ?_
            refine wr_iload_n (wg_da dt_X11_rule 38 rfl) rfl ?_
            refine wr_iload_n (wg_da dt_X11_rule 39 rfl) rfl ?_
            refine wr_iload_n (wg_da dt_X11_rule 40 rfl) rfl ?_
            refine wr_iload (wg_da dt_X11_rule 41 rfl) rfl ?_
            refine wr_callVv [.int x1, .int x2, .int x3, .int x4] [] (wg_da dt_X11_rule 42 rfl) ⟨wq_3_79, wq_3_80, wq_3_81⟩ (wg_ty Sc_ok 0 0 11 (wg_ty Sc_ok 10 0 2 (wg_ty Sc_ok 11 0 12 hx0 rfl (by decide)).2 rfl (by decide)).2 rfl (by decide)).2 ⟨rfl, by decide⟩ wy_X9_addRule (fun q hq => m_X9_addRule l E (wg_r Sc (wg_r Sc (wg_r Sc x0 0) 0) 0) x1 x2 x3 x4 (wg_ty Sc_ok 0 0 11 (wg_ty Sc_ok 10 0 2 (wg_ty Sc_ok 11 0 12 hx0 rfl (by decide)).2 rfl (by decide)).2 rfl (by decide)).2 _ q hq) rfl rfl (Nat.le_of_ble_eq_true rfl) ⟨rfl, rfl, by decide, by decide⟩ h (fun _ s11 h => ?_)
            refine wr_aload (wg_da dt_X11_rule 43 rfl) rfl ?_
            refine wr_getR wf_X11_99 (wg_da dt_X11_rule 44 rfl) (wg_ty Sc_ok 0 0 11 (wg_ty Sc_ok 10 0 2 (wg_ty Sc_ok 11 0 12 hx0 rfl (by decide)).2 rfl (by decide)).2 rfl (by decide)).2 ?_
            refine wr_iload_n (wg_da dt_X11_rule 45 rfl) rfl ?_
            refine wr_iald (wg_da dt_X11_rule 46 rfl) (wg_ty Sc_ok 9 4 0 (wg_ty Sc_ok 0 0 11 (wg_ty Sc_ok 10 0 2 (wg_ty Sc_ok 11 0 12 hx0 rfl (by decide)).2 rfl (by decide)).2 rfl (by decide)).2 rfl (by decide)).2 h (fun v12 h => ?_)
            exact wr_iret (wg_da dt_X11_rule 47 rfl) h
theorem m_X11_rule (l : Launch) (E : wg_E) (x0 : Nat) (x1 : Int32) (x2 : Int32) (x3 : Int32) (x4 : Int32) (hx0 : wg_t Sc x0 = 13) (σ : wg_M) (q : Int32 × wg_M) (h : f_X11_rule x0 x1 x2 x3 x4 σ = some q) : wg_MG l E Sc yX11_rule cX11_rule 6 (some .int) rm_X11_rule [.ref x0, .int x1, .int x2, .int x3, .int x4] σ (some q.1) q.2 :=
  wg_met [.ref x0, .int x1, .int x2, .int x3, .int x4] (plainFor_of_name (by decide)) (Nat.le_of_ble_eq_true rfl) (g_X11_rule_e l E x0 x1 x2 x3 x4 σ q hx0 h)
abbrev rm_X11_tellAnew : Room := { frames := 1, cells := 0, slots := 0, locals := 22 }
def tb_X11_tellAnew : List (Nat × Instr × Nat) := [(0, .iload_n 2, 1), (1, .iconst 0, 1), (2, .aload_n 1, 1), (3, .arraylength, 1), (4, .iconst 1, 1), (5, .isub, 1), (6, .invokestatic 73, 3), (9, .ifCond .eq 14, 3), (12, .iload_n 3, 1), (13, .iload 4, 2), (15, .iload 5, 2), (17, .invokestatic 73, 3), (20, .ifCond .ne 5, 3), (23, .iconst 0, 1), (24, .ireturn, 1), (25, .aload_n 0, 1), (26, .getfield 22, 3), (29, .invokevirtual 61, 3), (32, .aload_n 1, 1), (33, .iload_n 2, 1), (34, .iload_n 3, 1), (35, .iastore, 1), (36, .iconst 1, 1), (37, .ireturn, 1)]
theorem dt_X11_tellAnew : wg_dc cX11_tellAnew tb_X11_tellAnew := by unfold wg_dc; decide +kernel
def f_X11_tellAnew  (x0 : Nat) (x1 : Nat) (x2 : Int32) (x3 : Int32) (x4 : Int32) (x5 : Int32) (σ : wg_M) : Option (Int32 × wg_M) := wg_bd (f_X11_within x2 (0 : Int32) ((Int32.ofNat (wg_n Sc x1)) - (1 : Int32)) σ) (fun v1 s2 => if v1 = 0 then (some ((0 : Int32), s2)) else (wg_bd (f_X11_within x3 x4 x5 s2) (fun v3 s4 => if v3 = 0 then (some ((0 : Int32), s4)) else (wg_bd (f_X5_forget (wg_r Sc x0 2) s4) (fun _ s5 => wg_sa (wg_n Sc x1) s5 x1 x2 x3 (fun s6 => some ((1 : Int32), s6)))))))
set_option maxRecDepth 20000 in
theorem g_X11_tellAnew_e (l : Launch) (E : wg_E)  (x0 : Nat) (x1 : Nat) (x2 : Int32) (x3 : Int32) (x4 : Int32) (x5 : Int32) (σ : wg_M) (z : Int32 × wg_M) (hx0 : wg_t Sc x0 = 13) (hx1 : wg_t Sc x1 = 0) (h : f_X11_tellAnew  x0 x1 x2 x3 x4 x5 σ = some z) : wg_G l E Sc "WornWigs" cX11_tellAnew 6 (some .boolean) rm_X11_tellAnew (some z.1) z.2 0 [some (.ref x0), some (.ref x1), some (.int x2), some (.int x3), some (.int x4), some (.int x5)] [] σ := by
  refine wr_iload_n (wg_da dt_X11_tellAnew 0 rfl) rfl ?_
  refine wr_iconst (0 : Int32) (wg_da dt_X11_tellAnew 1 rfl) (by decide) ?_
  refine wr_aload_n (wg_da dt_X11_tellAnew 2 rfl) rfl ?_
  refine wr_alen (Int32.ofNat (wg_n Sc x1)) (wg_da dt_X11_tellAnew 3 rfl) hx1 rfl ?_
  refine wr_iconst (1 : Int32) (wg_da dt_X11_tellAnew 4 rfl) (by decide) ?_
  refine wr_isub (wg_da dt_X11_tellAnew 5 rfl) ?_
  refine wr_callSi [.int x2, .int (0 : Int32), .int ((Int32.ofNat (wg_n Sc x1)) - (1 : Int32))] [] (wg_da dt_X11_tellAnew 6 rfl) ⟨wq_3_48, wq_3_49⟩ wy_X11_within (fun q hq => m_X11_within l E x2 (0 : Int32) ((Int32.ofNat (wg_n Sc x1)) - (1 : Int32))  _ q hq) rfl rfl (Nat.le_of_ble_eq_true rfl) ⟨rfl, rfl, by decide, by decide⟩ h (fun v1 s2 h => ?_)
  refine wr_if_eq 23 (wg_da dt_X11_tellAnew 7 rfl) (by decide) h (fun h => ?_) (fun h => ?_)
  · refine wr_iconst (0 : Int32) (wg_da dt_X11_tellAnew 13 rfl) (by decide) ?_
    exact wr_zret0 (wg_da dt_X11_tellAnew 14 rfl) h
  · refine wr_iload_n (wg_da dt_X11_tellAnew 8 rfl) rfl ?_
    refine wr_iload (wg_da dt_X11_tellAnew 9 rfl) rfl ?_
    refine wr_iload (wg_da dt_X11_tellAnew 10 rfl) rfl ?_
    refine wr_callSi [.int x3, .int x4, .int x5] [] (wg_da dt_X11_tellAnew 11 rfl) ⟨wq_3_48, wq_3_49⟩ wy_X11_within (fun q hq => m_X11_within l E x3 x4 x5  _ q hq) rfl rfl (Nat.le_of_ble_eq_true rfl) ⟨rfl, rfl, by decide, by decide⟩ h (fun v3 s4 h => ?_)
    refine wr_if_ne 25 (wg_da dt_X11_tellAnew 12 rfl) (by decide) h (fun h => ?_) (fun h => ?_)
    · refine wr_iconst (0 : Int32) (wg_da dt_X11_tellAnew 13 rfl) (by decide) ?_
      exact wr_zret0 (wg_da dt_X11_tellAnew 14 rfl) h
    · refine wr_aload_n (wg_da dt_X11_tellAnew 15 rfl) rfl ?_
      refine wr_getR wf_X11_22 (wg_da dt_X11_tellAnew 16 rfl) hx0 ?_
      refine wr_callVv [] [] (wg_da dt_X11_tellAnew 17 rfl) ⟨wq_3_40, wq_3_41, wq_3_42⟩ (wg_ty Sc_ok 11 2 7 hx0 rfl (by decide)).2 ⟨rfl, by decide⟩ wy_X5_forget (fun q hq => m_X5_forget l E (wg_r Sc x0 2) (wg_ty Sc_ok 11 2 7 hx0 rfl (by decide)).2 _ q hq) rfl rfl (Nat.le_of_ble_eq_true rfl) ⟨rfl, rfl, by decide, by decide⟩ h (fun _ s5 h => ?_)
      refine wr_aload_n (wg_da dt_X11_tellAnew 18 rfl) rfl ?_
      refine wr_iload_n (wg_da dt_X11_tellAnew 19 rfl) rfl ?_
      refine wr_iload_n (wg_da dt_X11_tellAnew 20 rfl) rfl ?_
      refine wr_iast (wg_da dt_X11_tellAnew 21 rfl) hx1 h (fun s6 h => ?_)
      refine wr_iconst (1 : Int32) (wg_da dt_X11_tellAnew 22 rfl) (by decide) ?_
      exact wr_zret1 (wg_da dt_X11_tellAnew 23 rfl) h
theorem m_X11_tellAnew (l : Launch) (E : wg_E) (x0 : Nat) (x1 : Nat) (x2 : Int32) (x3 : Int32) (x4 : Int32) (x5 : Int32) (hx0 : wg_t Sc x0 = 13) (hx1 : wg_t Sc x1 = 0) (σ : wg_M) (q : Int32 × wg_M) (h : f_X11_tellAnew x0 x1 x2 x3 x4 x5 σ = some q) : wg_MG l E Sc yX11_tellAnew cX11_tellAnew 6 (some .boolean) rm_X11_tellAnew [.ref x0, .ref x1, .int x2, .int x3, .int x4, .int x5] σ (some q.1) q.2 :=
  wg_met [.ref x0, .ref x1, .int x2, .int x3, .int x4, .int x5] (plainFor_of_name (by decide)) (Nat.le_of_ble_eq_true rfl) (g_X11_tellAnew_e l E x0 x1 x2 x3 x4 x5 σ q hx0 hx1 h)
abbrev rm_X11_set : Room := { frames := 2, cells := 0, slots := 0, locals := 47 }
def tb_X11_set : List (Nat × Instr × Nat) := [(0, .aload_n 0, 1), (1, .getfield 12, 3), (4, .getfield 51, 3), (7, .astore 4, 2), (9, .iload_n 1, 1), (10, .tableswitch 178 0 3 #[30, 68, 107, 145], 30), (40, .aload 4, 2), (42, .getfield 81, 3), (45, .iload_n 2, 1), (46, .invokevirtual 107, 3), (49, .ifCond .eq 27, 3), (52, .aload_n 0, 1), (53, .aload 4, 2), (55, .getfield 81, 3), (58, .getfield 108, 3), (61, .iload_n 2, 1), (62, .iload_n 3, 1), (63, .iconst 0, 1), (64, .bipush 120, 2), (66, .invokevirtual 111, 3), (69, .ifCond .eq 7, 3), (72, .iconst 1, 1), (73, .goto 4, 3), (76, .iconst 0, 1), (77, .ireturn, 1), (78, .aload 4, 2), (80, .getfield 81, 3), (83, .iload_n 2, 1), (84, .invokevirtual 107, 3), (87, .ifCond .eq 28, 3), (90, .aload_n 0, 1), (91, .aload 4, 2), (93, .getfield 81, 3), (96, .getfield 115, 3), (99, .iload_n 2, 1), (100, .iload_n 3, 1), (101, .bipush (-9), 2), (103, .bipush 9, 2), (105, .invokevirtual 111, 3), (108, .ifCond .eq 7, 3), (111, .iconst 1, 1), (112, .goto 4, 3), (115, .iconst 0, 1), (116, .ireturn, 1), (117, .aload 4, 2), (119, .getfield 64, 3), (122, .iload_n 2, 1), (123, .invokevirtual 95, 3), (126, .ifCond .eq 27, 3), (129, .aload_n 0, 1), (130, .aload 4, 2), (132, .getfield 64, 3), (135, .getfield 118, 3), (138, .iload_n 2, 1), (139, .iload_n 3, 1), (140, .iconst 0, 1), (141, .bipush 99, 2), (143, .invokevirtual 111, 3), (146, .ifCond .eq 7, 3), (149, .iconst 1, 1), (150, .goto 4, 3), (153, .iconst 0, 1), (154, .ireturn, 1), (155, .aload 4, 2), (157, .iload_n 2, 1), (158, .invokevirtual 121, 3), (161, .ifCond .eq 25, 3), (164, .aload_n 0, 1), (165, .aload 4, 2), (167, .getfield 124, 3), (170, .iload_n 2, 1), (171, .iload_n 3, 1), (172, .bipush (-99), 2), (174, .bipush 99, 2), (176, .invokevirtual 111, 3), (179, .ifCond .eq 7, 3), (182, .iconst 1, 1), (183, .goto 4, 3), (186, .iconst 0, 1), (187, .ireturn, 1), (188, .iconst 0, 1), (189, .ireturn, 1)]
theorem dt_X11_set : wg_dc cX11_set tb_X11_set := by unfold wg_dc; decide +kernel
def f_X11_set  (x0 : Nat) (x1 : Int32) (x2 : Int32) (x3 : Int32) (σ : wg_M) : Option (Int32 × wg_M) := wg_sw x1 (0) [wg_bd (f_X2_has (wg_r Sc (wg_r Sc (wg_r Sc x0 0) 0) 1) x2 σ) (fun v1 s2 => if v1 = 0 then (some ((0 : Int32), s2)) else (wg_bd (f_X11_tellAnew x0 (wg_r Sc (wg_r Sc (wg_r Sc (wg_r Sc x0 0) 0) 1) 0) x2 x3 (0 : Int32) (120 : Int32) s2) (fun v3 s4 => if v3 = 0 then (some ((0 : Int32), s4)) else (some ((1 : Int32), s4))))), wg_bd (f_X2_has (wg_r Sc (wg_r Sc (wg_r Sc x0 0) 0) 1) x2 σ) (fun v5 s6 => if v5 = 0 then (some ((0 : Int32), s6)) else (wg_bd (f_X11_tellAnew x0 (wg_r Sc (wg_r Sc (wg_r Sc (wg_r Sc x0 0) 0) 1) 1) x2 x3 (-9 : Int32) (9 : Int32) s6) (fun v7 s8 => if v7 = 0 then (some ((0 : Int32), s8)) else (some ((1 : Int32), s8))))), wg_bd (f_X9_has (wg_r Sc (wg_r Sc (wg_r Sc x0 0) 0) 0) x2 σ) (fun v9 s10 => if v9 = 0 then (some ((0 : Int32), s10)) else (wg_bd (f_X11_tellAnew x0 (wg_r Sc (wg_r Sc (wg_r Sc (wg_r Sc x0 0) 0) 0) 1) x2 x3 (0 : Int32) (99 : Int32) s10) (fun v11 s12 => if v11 = 0 then (some ((0 : Int32), s12)) else (some ((1 : Int32), s12))))), wg_bd (f_X0_hasCase (wg_r Sc (wg_r Sc x0 0) 0) x2 σ) (fun v13 s14 => if v13 = 0 then (some ((0 : Int32), s14)) else (wg_bd (f_X11_tellAnew x0 (wg_r Sc (wg_r Sc (wg_r Sc x0 0) 0) 3) x2 x3 (-99 : Int32) (99 : Int32) s14) (fun v15 s16 => if v15 = 0 then (some ((0 : Int32), s16)) else (some ((1 : Int32), s16)))))] (some ((0 : Int32), σ))
set_option maxRecDepth 20000 in
theorem g_X11_set_e (l : Launch) (E : wg_E)  (x0 : Nat) (x1 : Int32) (x2 : Int32) (x3 : Int32) (σ : wg_M) (z : Int32 × wg_M) (hx0 : wg_t Sc x0 = 13) (h : f_X11_set  x0 x1 x2 x3 σ = some z) : wg_G l E Sc "WornWigs" cX11_set 5 (some .boolean) rm_X11_set (some z.1) z.2 0 [some (.ref x0), some (.int x1), some (.int x2), some (.int x3), none] [] σ := by
  refine wr_aload_n (wg_da dt_X11_set 0 rfl) rfl ?_
  refine wr_getR wf_X11_12 (wg_da dt_X11_set 1 rfl) hx0 ?_
  refine wr_getR wf_X11_51 (wg_da dt_X11_set 2 rfl) (wg_ty Sc_ok 11 0 12 hx0 rfl (by decide)).2 ?_
  refine wr_astore (wg_da dt_X11_set 3 rfl) (by decide) ?_
  refine wr_iload_n (wg_da dt_X11_set 4 rfl) rfl ?_
  refine wr_tsw [40, 78, 117, 155] 188 (wg_da dt_X11_set 5 rfl) rfl rfl (by decide) (by decide) h (wg_all_c (fun h => ?_) (wg_all_c (fun h => ?_) (wg_all_c (fun h => ?_) (wg_all_c (fun h => ?_) (wg_all_n))))) (fun h => ?_)
  · refine wr_aload (wg_da dt_X11_set 6 rfl) rfl ?_
    refine wr_getR wf_X11_81 (wg_da dt_X11_set 7 rfl) (wg_ty Sc_ok 10 0 2 (wg_ty Sc_ok 11 0 12 hx0 rfl (by decide)).2 rfl (by decide)).2 ?_
    refine wr_iload_n (wg_da dt_X11_set 8 rfl) rfl ?_
    refine wr_callVi [.int x2] [] (wg_da dt_X11_set 9 rfl) ⟨wq_3_104, wq_3_105, wq_3_106⟩ (wg_ty Sc_ok 0 1 4 (wg_ty Sc_ok 10 0 2 (wg_ty Sc_ok 11 0 12 hx0 rfl (by decide)).2 rfl (by decide)).2 rfl (by decide)).2 ⟨rfl, by decide⟩ wy_X2_has (fun q hq => m_X2_has l E (wg_r Sc (wg_r Sc (wg_r Sc x0 0) 0) 1) x2 (wg_ty Sc_ok 0 1 4 (wg_ty Sc_ok 10 0 2 (wg_ty Sc_ok 11 0 12 hx0 rfl (by decide)).2 rfl (by decide)).2 rfl (by decide)).2 _ q hq) rfl rfl (Nat.le_of_ble_eq_true rfl) ⟨rfl, rfl, by decide, by decide⟩ h (fun v1 s2 h => ?_)
    refine wr_if_eq 76 (wg_da dt_X11_set 10 rfl) (by decide) h (fun h => ?_) (fun h => ?_)
    · refine wr_iconst (0 : Int32) (wg_da dt_X11_set 23 rfl) (by decide) ?_
      exact wr_zret0 (wg_da dt_X11_set 24 rfl) h
    · refine wr_aload_n (wg_da dt_X11_set 11 rfl) rfl ?_
      refine wr_aload (wg_da dt_X11_set 12 rfl) rfl ?_
      refine wr_getR wf_X11_81 (wg_da dt_X11_set 13 rfl) (wg_ty Sc_ok 10 0 2 (wg_ty Sc_ok 11 0 12 hx0 rfl (by decide)).2 rfl (by decide)).2 ?_
      refine wr_getR wf_X11_108 (wg_da dt_X11_set 14 rfl) (wg_ty Sc_ok 0 1 4 (wg_ty Sc_ok 10 0 2 (wg_ty Sc_ok 11 0 12 hx0 rfl (by decide)).2 rfl (by decide)).2 rfl (by decide)).2 ?_
      refine wr_iload_n (wg_da dt_X11_set 15 rfl) rfl ?_
      refine wr_iload_n (wg_da dt_X11_set 16 rfl) rfl ?_
      refine wr_iconst (0 : Int32) (wg_da dt_X11_set 17 rfl) (by decide) ?_
      refine wr_bipush (120 : Int32) (wg_da dt_X11_set 18 rfl) (by decide) ?_
      refine wr_callVi [.ref (wg_r Sc (wg_r Sc (wg_r Sc (wg_r Sc x0 0) 0) 1) 0), .int x2, .int x3, .int (0 : Int32), .int (120 : Int32)] [] (wg_da dt_X11_set 19 rfl) ⟨wq_3_108, wq_3_110, wq_p1_2⟩ hx0 ⟨rfl, by decide⟩ wy_X11_tellAnew (fun q hq => m_X11_tellAnew l E x0 (wg_r Sc (wg_r Sc (wg_r Sc (wg_r Sc x0 0) 0) 1) 0) x2 x3 (0 : Int32) (120 : Int32) hx0 (wg_ty Sc_ok 2 0 0 (wg_ty Sc_ok 0 1 4 (wg_ty Sc_ok 10 0 2 (wg_ty Sc_ok 11 0 12 hx0 rfl (by decide)).2 rfl (by decide)).2 rfl (by decide)).2 rfl (by decide)).2 _ q hq) rfl rfl (Nat.le_of_ble_eq_true rfl) ⟨rfl, rfl, by decide, by decide⟩ h (fun v3 s4 h => ?_)
      refine wr_if_eq 76 (wg_da dt_X11_set 20 rfl) (by decide) h (fun h => ?_) (fun h => ?_)
      · refine wr_iconst (0 : Int32) (wg_da dt_X11_set 23 rfl) (by decide) ?_
        exact wr_zret0 (wg_da dt_X11_set 24 rfl) h
      · refine wr_iconst (1 : Int32) (wg_da dt_X11_set 21 rfl) (by decide) ?_
        refine wr_goto 77 (wg_da dt_X11_set 22 rfl) (by decide) ?_
        exact wr_zret1 (wg_da dt_X11_set 24 rfl) h
  · refine wr_aload (wg_da dt_X11_set 25 rfl) rfl ?_
    refine wr_getR wf_X11_81 (wg_da dt_X11_set 26 rfl) (wg_ty Sc_ok 10 0 2 (wg_ty Sc_ok 11 0 12 hx0 rfl (by decide)).2 rfl (by decide)).2 ?_
    refine wr_iload_n (wg_da dt_X11_set 27 rfl) rfl ?_
    refine wr_callVi [.int x2] [] (wg_da dt_X11_set 28 rfl) ⟨wq_3_104, wq_3_105, wq_3_106⟩ (wg_ty Sc_ok 0 1 4 (wg_ty Sc_ok 10 0 2 (wg_ty Sc_ok 11 0 12 hx0 rfl (by decide)).2 rfl (by decide)).2 rfl (by decide)).2 ⟨rfl, by decide⟩ wy_X2_has (fun q hq => m_X2_has l E (wg_r Sc (wg_r Sc (wg_r Sc x0 0) 0) 1) x2 (wg_ty Sc_ok 0 1 4 (wg_ty Sc_ok 10 0 2 (wg_ty Sc_ok 11 0 12 hx0 rfl (by decide)).2 rfl (by decide)).2 rfl (by decide)).2 _ q hq) rfl rfl (Nat.le_of_ble_eq_true rfl) ⟨rfl, rfl, by decide, by decide⟩ h (fun v5 s6 h => ?_)
    refine wr_if_eq 115 (wg_da dt_X11_set 29 rfl) (by decide) h (fun h => ?_) (fun h => ?_)
    · refine wr_iconst (0 : Int32) (wg_da dt_X11_set 42 rfl) (by decide) ?_
      exact wr_zret0 (wg_da dt_X11_set 43 rfl) h
    · refine wr_aload_n (wg_da dt_X11_set 30 rfl) rfl ?_
      refine wr_aload (wg_da dt_X11_set 31 rfl) rfl ?_
      refine wr_getR wf_X11_81 (wg_da dt_X11_set 32 rfl) (wg_ty Sc_ok 10 0 2 (wg_ty Sc_ok 11 0 12 hx0 rfl (by decide)).2 rfl (by decide)).2 ?_
      refine wr_getR wf_X11_115 (wg_da dt_X11_set 33 rfl) (wg_ty Sc_ok 0 1 4 (wg_ty Sc_ok 10 0 2 (wg_ty Sc_ok 11 0 12 hx0 rfl (by decide)).2 rfl (by decide)).2 rfl (by decide)).2 ?_
      refine wr_iload_n (wg_da dt_X11_set 34 rfl) rfl ?_
      refine wr_iload_n (wg_da dt_X11_set 35 rfl) rfl ?_
      refine wr_bipush (-9 : Int32) (wg_da dt_X11_set 36 rfl) (by decide) ?_
      refine wr_bipush (9 : Int32) (wg_da dt_X11_set 37 rfl) (by decide) ?_
      refine wr_callVi [.ref (wg_r Sc (wg_r Sc (wg_r Sc (wg_r Sc x0 0) 0) 1) 1), .int x2, .int x3, .int (-9 : Int32), .int (9 : Int32)] [] (wg_da dt_X11_set 38 rfl) ⟨wq_3_108, wq_3_110, wq_p1_2⟩ hx0 ⟨rfl, by decide⟩ wy_X11_tellAnew (fun q hq => m_X11_tellAnew l E x0 (wg_r Sc (wg_r Sc (wg_r Sc (wg_r Sc x0 0) 0) 1) 1) x2 x3 (-9 : Int32) (9 : Int32) hx0 (wg_ty Sc_ok 2 1 0 (wg_ty Sc_ok 0 1 4 (wg_ty Sc_ok 10 0 2 (wg_ty Sc_ok 11 0 12 hx0 rfl (by decide)).2 rfl (by decide)).2 rfl (by decide)).2 rfl (by decide)).2 _ q hq) rfl rfl (Nat.le_of_ble_eq_true rfl) ⟨rfl, rfl, by decide, by decide⟩ h (fun v7 s8 h => ?_)
      refine wr_if_eq 115 (wg_da dt_X11_set 39 rfl) (by decide) h (fun h => ?_) (fun h => ?_)
      · refine wr_iconst (0 : Int32) (wg_da dt_X11_set 42 rfl) (by decide) ?_
        exact wr_zret0 (wg_da dt_X11_set 43 rfl) h
      · refine wr_iconst (1 : Int32) (wg_da dt_X11_set 40 rfl) (by decide) ?_
        refine wr_goto 116 (wg_da dt_X11_set 41 rfl) (by decide) ?_
        exact wr_zret1 (wg_da dt_X11_set 43 rfl) h
  · refine wr_aload (wg_da dt_X11_set 44 rfl) rfl ?_
    refine wr_getR wf_X11_64 (wg_da dt_X11_set 45 rfl) (wg_ty Sc_ok 10 0 2 (wg_ty Sc_ok 11 0 12 hx0 rfl (by decide)).2 rfl (by decide)).2 ?_
    refine wr_iload_n (wg_da dt_X11_set 46 rfl) rfl ?_
    refine wr_callVi [.int x2] [] (wg_da dt_X11_set 47 rfl) ⟨wq_3_75, wq_3_76, wq_3_77⟩ (wg_ty Sc_ok 0 0 11 (wg_ty Sc_ok 10 0 2 (wg_ty Sc_ok 11 0 12 hx0 rfl (by decide)).2 rfl (by decide)).2 rfl (by decide)).2 ⟨rfl, by decide⟩ wy_X9_has (fun q hq => m_X9_has l E (wg_r Sc (wg_r Sc (wg_r Sc x0 0) 0) 0) x2 (wg_ty Sc_ok 0 0 11 (wg_ty Sc_ok 10 0 2 (wg_ty Sc_ok 11 0 12 hx0 rfl (by decide)).2 rfl (by decide)).2 rfl (by decide)).2 _ q hq) rfl rfl (Nat.le_of_ble_eq_true rfl) ⟨rfl, rfl, by decide, by decide⟩ h (fun v9 s10 h => ?_)
    refine wr_if_eq 153 (wg_da dt_X11_set 48 rfl) (by decide) h (fun h => ?_) (fun h => ?_)
    · refine wr_iconst (0 : Int32) (wg_da dt_X11_set 61 rfl) (by decide) ?_
      exact wr_zret0 (wg_da dt_X11_set 62 rfl) h
    · refine wr_aload_n (wg_da dt_X11_set 49 rfl) rfl ?_
      refine wr_aload (wg_da dt_X11_set 50 rfl) rfl ?_
      refine wr_getR wf_X11_64 (wg_da dt_X11_set 51 rfl) (wg_ty Sc_ok 10 0 2 (wg_ty Sc_ok 11 0 12 hx0 rfl (by decide)).2 rfl (by decide)).2 ?_
      refine wr_getR wf_X11_118 (wg_da dt_X11_set 52 rfl) (wg_ty Sc_ok 0 0 11 (wg_ty Sc_ok 10 0 2 (wg_ty Sc_ok 11 0 12 hx0 rfl (by decide)).2 rfl (by decide)).2 rfl (by decide)).2 ?_
      refine wr_iload_n (wg_da dt_X11_set 53 rfl) rfl ?_
      refine wr_iload_n (wg_da dt_X11_set 54 rfl) rfl ?_
      refine wr_iconst (0 : Int32) (wg_da dt_X11_set 55 rfl) (by decide) ?_
      refine wr_bipush (99 : Int32) (wg_da dt_X11_set 56 rfl) (by decide) ?_
      refine wr_callVi [.ref (wg_r Sc (wg_r Sc (wg_r Sc (wg_r Sc x0 0) 0) 0) 1), .int x2, .int x3, .int (0 : Int32), .int (99 : Int32)] [] (wg_da dt_X11_set 57 rfl) ⟨wq_3_108, wq_3_110, wq_p1_2⟩ hx0 ⟨rfl, by decide⟩ wy_X11_tellAnew (fun q hq => m_X11_tellAnew l E x0 (wg_r Sc (wg_r Sc (wg_r Sc (wg_r Sc x0 0) 0) 0) 1) x2 x3 (0 : Int32) (99 : Int32) hx0 (wg_ty Sc_ok 9 1 0 (wg_ty Sc_ok 0 0 11 (wg_ty Sc_ok 10 0 2 (wg_ty Sc_ok 11 0 12 hx0 rfl (by decide)).2 rfl (by decide)).2 rfl (by decide)).2 rfl (by decide)).2 _ q hq) rfl rfl (Nat.le_of_ble_eq_true rfl) ⟨rfl, rfl, by decide, by decide⟩ h (fun v11 s12 h => ?_)
      refine wr_if_eq 153 (wg_da dt_X11_set 58 rfl) (by decide) h (fun h => ?_) (fun h => ?_)
      · refine wr_iconst (0 : Int32) (wg_da dt_X11_set 61 rfl) (by decide) ?_
        exact wr_zret0 (wg_da dt_X11_set 62 rfl) h
      · refine wr_iconst (1 : Int32) (wg_da dt_X11_set 59 rfl) (by decide) ?_
        refine wr_goto 154 (wg_da dt_X11_set 60 rfl) (by decide) ?_
        exact wr_zret1 (wg_da dt_X11_set 62 rfl) h
  · refine wr_aload (wg_da dt_X11_set 63 rfl) rfl ?_
    refine wr_iload_n (wg_da dt_X11_set 64 rfl) rfl ?_
    refine wr_callVi [.int x2] [] (wg_da dt_X11_set 65 rfl) ⟨wq_3_112, wq_3_113, wq_3_114⟩ (wg_ty Sc_ok 10 0 2 (wg_ty Sc_ok 11 0 12 hx0 rfl (by decide)).2 rfl (by decide)).2 ⟨rfl, by decide⟩ wy_X0_hasCase (fun q hq => m_X0_hasCase l E (wg_r Sc (wg_r Sc x0 0) 0) x2 (wg_ty Sc_ok 10 0 2 (wg_ty Sc_ok 11 0 12 hx0 rfl (by decide)).2 rfl (by decide)).2 _ q hq) rfl rfl (Nat.le_of_ble_eq_true rfl) ⟨rfl, rfl, by decide, by decide⟩ h (fun v13 s14 h => ?_)
    refine wr_if_eq 186 (wg_da dt_X11_set 66 rfl) (by decide) h (fun h => ?_) (fun h => ?_)
    · refine wr_iconst (0 : Int32) (wg_da dt_X11_set 78 rfl) (by decide) ?_
      exact wr_zret0 (wg_da dt_X11_set 79 rfl) h
    · refine wr_aload_n (wg_da dt_X11_set 67 rfl) rfl ?_
      refine wr_aload (wg_da dt_X11_set 68 rfl) rfl ?_
      refine wr_getR wf_X11_124 (wg_da dt_X11_set 69 rfl) (wg_ty Sc_ok 10 0 2 (wg_ty Sc_ok 11 0 12 hx0 rfl (by decide)).2 rfl (by decide)).2 ?_
      refine wr_iload_n (wg_da dt_X11_set 70 rfl) rfl ?_
      refine wr_iload_n (wg_da dt_X11_set 71 rfl) rfl ?_
      refine wr_bipush (-99 : Int32) (wg_da dt_X11_set 72 rfl) (by decide) ?_
      refine wr_bipush (99 : Int32) (wg_da dt_X11_set 73 rfl) (by decide) ?_
      refine wr_callVi [.ref (wg_r Sc (wg_r Sc (wg_r Sc x0 0) 0) 3), .int x2, .int x3, .int (-99 : Int32), .int (99 : Int32)] [] (wg_da dt_X11_set 74 rfl) ⟨wq_3_108, wq_3_110, wq_p1_2⟩ hx0 ⟨rfl, by decide⟩ wy_X11_tellAnew (fun q hq => m_X11_tellAnew l E x0 (wg_r Sc (wg_r Sc (wg_r Sc x0 0) 0) 3) x2 x3 (-99 : Int32) (99 : Int32) hx0 (wg_ty Sc_ok 0 3 0 (wg_ty Sc_ok 10 0 2 (wg_ty Sc_ok 11 0 12 hx0 rfl (by decide)).2 rfl (by decide)).2 rfl (by decide)).2 _ q hq) rfl rfl (Nat.le_of_ble_eq_true rfl) ⟨rfl, rfl, by decide, by decide⟩ h (fun v15 s16 h => ?_)
      refine wr_if_eq 186 (wg_da dt_X11_set 75 rfl) (by decide) h (fun h => ?_) (fun h => ?_)
      · refine wr_iconst (0 : Int32) (wg_da dt_X11_set 78 rfl) (by decide) ?_
        exact wr_zret0 (wg_da dt_X11_set 79 rfl) h
      · refine wr_iconst (1 : Int32) (wg_da dt_X11_set 76 rfl) (by decide) ?_
        refine wr_goto 187 (wg_da dt_X11_set 77 rfl) (by decide) ?_
        exact wr_zret1 (wg_da dt_X11_set 79 rfl) h
  · refine wr_iconst (0 : Int32) (wg_da dt_X11_set 80 rfl) (by decide) ?_
    exact wr_zret0 (wg_da dt_X11_set 81 rfl) h
theorem m_X11_set (l : Launch) (E : wg_E) (x0 : Nat) (x1 : Int32) (x2 : Int32) (x3 : Int32) (hx0 : wg_t Sc x0 = 13) (σ : wg_M) (q : Int32 × wg_M) (h : f_X11_set x0 x1 x2 x3 σ = some q) : wg_MG l E Sc yX11_set cX11_set 5 (some .boolean) rm_X11_set [.ref x0, .int x1, .int x2, .int x3] σ (some q.1) q.2 :=
  wg_met [.ref x0, .int x1, .int x2, .int x3] (plainFor_of_name (by decide)) (Nat.le_of_ble_eq_true rfl) (g_X11_set_e l E x0 x1 x2 x3 σ q hx0 h)
abbrev rm_X11_tries : Room := { frames := 6, cells := 0, slots := 0, locals := 147 }
def tb_X11_tries : List (Nat × Instr × Nat) := [(0, .aload_n 0, 1), (1, .getfield 38, 3), (4, .iload_n 1, 1), (5, .iload_n 2, 1), (6, .invokevirtual 127, 3), (9, .ifCond .ne 7, 3), (12, .sipush (-10000), 3), (15, .ireturn, 1), (16, .aload_n 0, 1), (17, .getfield 22, 3), (20, .aload_n 0, 1), (21, .getfield 12, 3), (24, .getfield 51, 3), (27, .invokevirtual 131, 3), (30, .aload_n 0, 1), (31, .getfield 38, 3), (34, .iload_n 1, 1), (35, .iload_n 2, 1), (36, .invokevirtual 135, 3), (39, .aload_n 0, 1), (40, .getfield 12, 3), (43, .getfield 51, 3), (46, .getfield 139, 3), (49, .iload_n 1, 1), (50, .iaload, 1), (51, .ireturn, 1)]
theorem dt_X11_tries : wg_dc cX11_tries tb_X11_tries := by unfold wg_dc; decide +kernel
def f_X11_tries  (x0 : Nat) (x1 : Int32) (x2 : Int32) (σ : wg_M) : Option (Int32 × wg_M) := wg_bd (f_X1_canTry (wg_r Sc x0 4) x1 x2 σ) (fun v1 s2 => if v1 = 0 then (some ((-10000 : Int32), s2)) else (wg_bd (f_X5_remember (wg_r Sc x0 2) (wg_r Sc (wg_r Sc x0 0) 0) s2) (fun _ s3 => wg_bd (f_X1_tryCase (wg_r Sc x0 4) x1 x2 s3) (fun _ s4 => wg_ga (wg_n Sc (wg_r Sc (wg_r Sc (wg_r Sc x0 0) 0) 4)) (s4 (wg_r Sc (wg_r Sc (wg_r Sc x0 0) 0) 4)) x1 (fun v5 => some (v5, s4))))))
set_option maxRecDepth 20000 in
theorem g_X11_tries_e (l : Launch) (E : wg_E)  (x0 : Nat) (x1 : Int32) (x2 : Int32) (σ : wg_M) (z : Int32 × wg_M) (hx0 : wg_t Sc x0 = 13) (h : f_X11_tries  x0 x1 x2 σ = some z) : wg_G l E Sc "WornWigs" cX11_tries 3 (some .int) rm_X11_tries (some z.1) z.2 0 [some (.ref x0), some (.int x1), some (.int x2)] [] σ := by
  refine wr_aload_n (wg_da dt_X11_tries 0 rfl) rfl ?_
  refine wr_getR wf_X11_38 (wg_da dt_X11_tries 1 rfl) hx0 ?_
  refine wr_iload_n (wg_da dt_X11_tries 2 rfl) rfl ?_
  refine wr_iload_n (wg_da dt_X11_tries 3 rfl) rfl ?_
  refine wr_callVi [.int x1, .int x2] [] (wg_da dt_X11_tries 4 rfl) ⟨wq_3_120, wq_3_121, wq_3_122⟩ (wg_ty Sc_ok 11 4 3 hx0 rfl (by decide)).2 ⟨rfl, by decide⟩ wy_X1_canTry (fun q hq => m_X1_canTry l E (wg_r Sc x0 4) x1 x2 (wg_ty Sc_ok 11 4 3 hx0 rfl (by decide)).2 _ q hq) rfl rfl (Nat.le_of_ble_eq_true rfl) ⟨rfl, rfl, by decide, by decide⟩ h (fun v1 s2 h => ?_)
  refine wr_if_ne 16 (wg_da dt_X11_tries 5 rfl) (by decide) h (fun h => ?_) (fun h => ?_)
  · refine wr_sipush (-10000 : Int32) (wg_da dt_X11_tries 6 rfl) (by decide) ?_
    exact wr_iret (wg_da dt_X11_tries 7 rfl) h
  · refine wr_aload_n (wg_da dt_X11_tries 8 rfl) rfl ?_
    refine wr_getR wf_X11_22 (wg_da dt_X11_tries 9 rfl) hx0 ?_
    refine wr_aload_n (wg_da dt_X11_tries 10 rfl) rfl ?_
    refine wr_getR wf_X11_12 (wg_da dt_X11_tries 11 rfl) hx0 ?_
    refine wr_getR wf_X11_51 (wg_da dt_X11_tries 12 rfl) (wg_ty Sc_ok 11 0 12 hx0 rfl (by decide)).2 ?_
    refine wr_callVv [.ref (wg_r Sc (wg_r Sc x0 0) 0)] [] (wg_da dt_X11_tries 13 rfl) ⟨wq_3_130, wq_3_131, wq_3_132⟩ (wg_ty Sc_ok 11 2 7 hx0 rfl (by decide)).2 ⟨rfl, by decide⟩ wy_X5_remember (fun q hq => m_X5_remember l E (wg_r Sc x0 2) (wg_r Sc (wg_r Sc x0 0) 0) (wg_ty Sc_ok 11 2 7 hx0 rfl (by decide)).2 (wg_ty Sc_ok 10 0 2 (wg_ty Sc_ok 11 0 12 hx0 rfl (by decide)).2 rfl (by decide)).2 _ q hq) rfl rfl (Nat.le_of_ble_eq_true rfl) ⟨rfl, rfl, by decide, by decide⟩ h (fun _ s3 h => ?_)
    refine wr_aload_n (wg_da dt_X11_tries 14 rfl) rfl ?_
    refine wr_getR wf_X11_38 (wg_da dt_X11_tries 15 rfl) hx0 ?_
    refine wr_iload_n (wg_da dt_X11_tries 16 rfl) rfl ?_
    refine wr_iload_n (wg_da dt_X11_tries 17 rfl) rfl ?_
    refine wr_callVv [.int x1, .int x2] [] (wg_da dt_X11_tries 18 rfl) ⟨wq_3_156, wq_3_157, wq_3_158⟩ (wg_ty Sc_ok 11 4 3 hx0 rfl (by decide)).2 ⟨rfl, by decide⟩ wy_X1_tryCase (fun q hq => m_X1_tryCase l E (wg_r Sc x0 4) x1 x2 (wg_ty Sc_ok 11 4 3 hx0 rfl (by decide)).2 _ q hq) rfl rfl (Nat.le_of_ble_eq_true rfl) ⟨rfl, rfl, by decide, by decide⟩ h (fun _ s4 h => ?_)
    refine wr_aload_n (wg_da dt_X11_tries 19 rfl) rfl ?_
    refine wr_getR wf_X11_12 (wg_da dt_X11_tries 20 rfl) hx0 ?_
    refine wr_getR wf_X11_51 (wg_da dt_X11_tries 21 rfl) (wg_ty Sc_ok 11 0 12 hx0 rfl (by decide)).2 ?_
    refine wr_getR wf_X11_139 (wg_da dt_X11_tries 22 rfl) (wg_ty Sc_ok 10 0 2 (wg_ty Sc_ok 11 0 12 hx0 rfl (by decide)).2 rfl (by decide)).2 ?_
    refine wr_iload_n (wg_da dt_X11_tries 23 rfl) rfl ?_
    refine wr_iald (wg_da dt_X11_tries 24 rfl) (wg_ty Sc_ok 0 4 0 (wg_ty Sc_ok 10 0 2 (wg_ty Sc_ok 11 0 12 hx0 rfl (by decide)).2 rfl (by decide)).2 rfl (by decide)).2 h (fun v5 h => ?_)
    exact wr_iret (wg_da dt_X11_tries 25 rfl) h
theorem m_X11_tries (l : Launch) (E : wg_E) (x0 : Nat) (x1 : Int32) (x2 : Int32) (hx0 : wg_t Sc x0 = 13) (σ : wg_M) (q : Int32 × wg_M) (h : f_X11_tries x0 x1 x2 σ = some q) : wg_MG l E Sc yX11_tries cX11_tries 3 (some .int) rm_X11_tries [.ref x0, .int x1, .int x2] σ (some q.1) q.2 :=
  wg_met [.ref x0, .int x1, .int x2] (plainFor_of_name (by decide)) (Nat.le_of_ble_eq_true rfl) (g_X11_tries_e l E x0 x1 x2 σ q hx0 h)
abbrev rm_X11_act : Room := { frames := 5, cells := 0, slots := 0, locals := 124 }
def tb_X11_act : List (Nat × Instr × Nat) := [(0, .aload_n 0, 1), (1, .getfield 38, 3), (4, .iload_n 1, 1), (5, .iload_n 2, 1), (6, .iload_n 3, 1), (7, .invokevirtual 142, 3), (10, .ifCond .ne 5, 3), (13, .iconst 0, 1), (14, .ireturn, 1), (15, .aload_n 0, 1), (16, .getfield 22, 3), (19, .aload_n 0, 1), (20, .getfield 12, 3), (23, .getfield 51, 3), (26, .invokevirtual 131, 3), (29, .aload_n 0, 1), (30, .getfield 38, 3), (33, .iload_n 1, 1), (34, .iload_n 2, 1), (35, .iload_n 3, 1), (36, .invokevirtual 145, 3), (39, .iconst 1, 1), (40, .ireturn, 1)]
theorem dt_X11_act : wg_dc cX11_act tb_X11_act := by unfold wg_dc; decide +kernel
def f_X11_act  (x0 : Nat) (x1 : Int32) (x2 : Int32) (x3 : Int32) (σ : wg_M) : Option (Int32 × wg_M) := wg_bd (f_X1_canDo (wg_r Sc x0 4) x1 x2 x3 σ) (fun v1 s2 => if v1 = 0 then (some ((0 : Int32), s2)) else (wg_bd (f_X5_remember (wg_r Sc x0 2) (wg_r Sc (wg_r Sc x0 0) 0) s2) (fun _ s3 => wg_bd (f_X1_doTo (wg_r Sc x0 4) x1 x2 x3 s3) (fun _ s4 => some ((1 : Int32), s4)))))
set_option maxRecDepth 20000 in
theorem g_X11_act_e (l : Launch) (E : wg_E)  (x0 : Nat) (x1 : Int32) (x2 : Int32) (x3 : Int32) (σ : wg_M) (z : Int32 × wg_M) (hx0 : wg_t Sc x0 = 13) (h : f_X11_act  x0 x1 x2 x3 σ = some z) : wg_G l E Sc "WornWigs" cX11_act 4 (some .boolean) rm_X11_act (some z.1) z.2 0 [some (.ref x0), some (.int x1), some (.int x2), some (.int x3)] [] σ := by
  refine wr_aload_n (wg_da dt_X11_act 0 rfl) rfl ?_
  refine wr_getR wf_X11_38 (wg_da dt_X11_act 1 rfl) hx0 ?_
  refine wr_iload_n (wg_da dt_X11_act 2 rfl) rfl ?_
  refine wr_iload_n (wg_da dt_X11_act 3 rfl) rfl ?_
  refine wr_iload_n (wg_da dt_X11_act 4 rfl) rfl ?_
  refine wr_callVi [.int x1, .int x2, .int x3] [] (wg_da dt_X11_act 5 rfl) ⟨wq_3_227, wq_3_228, wq_3_229⟩ (wg_ty Sc_ok 11 4 3 hx0 rfl (by decide)).2 ⟨rfl, by decide⟩ wy_X1_canDo (fun q hq => m_X1_canDo l E (wg_r Sc x0 4) x1 x2 x3 (wg_ty Sc_ok 11 4 3 hx0 rfl (by decide)).2 _ q hq) rfl rfl (Nat.le_of_ble_eq_true rfl) ⟨rfl, rfl, by decide, by decide⟩ h (fun v1 s2 h => ?_)
  refine wr_if_ne 15 (wg_da dt_X11_act 6 rfl) (by decide) h (fun h => ?_) (fun h => ?_)
  · refine wr_iconst (0 : Int32) (wg_da dt_X11_act 7 rfl) (by decide) ?_
    exact wr_zret0 (wg_da dt_X11_act 8 rfl) h
  · refine wr_aload_n (wg_da dt_X11_act 9 rfl) rfl ?_
    refine wr_getR wf_X11_22 (wg_da dt_X11_act 10 rfl) hx0 ?_
    refine wr_aload_n (wg_da dt_X11_act 11 rfl) rfl ?_
    refine wr_getR wf_X11_12 (wg_da dt_X11_act 12 rfl) hx0 ?_
    refine wr_getR wf_X11_51 (wg_da dt_X11_act 13 rfl) (wg_ty Sc_ok 11 0 12 hx0 rfl (by decide)).2 ?_
    refine wr_callVv [.ref (wg_r Sc (wg_r Sc x0 0) 0)] [] (wg_da dt_X11_act 14 rfl) ⟨wq_3_130, wq_3_131, wq_3_132⟩ (wg_ty Sc_ok 11 2 7 hx0 rfl (by decide)).2 ⟨rfl, by decide⟩ wy_X5_remember (fun q hq => m_X5_remember l E (wg_r Sc x0 2) (wg_r Sc (wg_r Sc x0 0) 0) (wg_ty Sc_ok 11 2 7 hx0 rfl (by decide)).2 (wg_ty Sc_ok 10 0 2 (wg_ty Sc_ok 11 0 12 hx0 rfl (by decide)).2 rfl (by decide)).2 _ q hq) rfl rfl (Nat.le_of_ble_eq_true rfl) ⟨rfl, rfl, by decide, by decide⟩ h (fun _ s3 h => ?_)
    refine wr_aload_n (wg_da dt_X11_act 15 rfl) rfl ?_
    refine wr_getR wf_X11_38 (wg_da dt_X11_act 16 rfl) hx0 ?_
    refine wr_iload_n (wg_da dt_X11_act 17 rfl) rfl ?_
    refine wr_iload_n (wg_da dt_X11_act 18 rfl) rfl ?_
    refine wr_iload_n (wg_da dt_X11_act 19 rfl) rfl ?_
    refine wr_callVv [.int x1, .int x2, .int x3] [] (wg_da dt_X11_act 20 rfl) ⟨wq_4_0, wq_4_1, wq_4_2⟩ (wg_ty Sc_ok 11 4 3 hx0 rfl (by decide)).2 ⟨rfl, by decide⟩ wy_X1_doTo (fun q hq => m_X1_doTo l E (wg_r Sc x0 4) x1 x2 x3 (wg_ty Sc_ok 11 4 3 hx0 rfl (by decide)).2 _ q hq) rfl rfl (Nat.le_of_ble_eq_true rfl) ⟨rfl, rfl, by decide, by decide⟩ h (fun _ s4 h => ?_)
    refine wr_iconst (1 : Int32) (wg_da dt_X11_act 21 rfl) (by decide) ?_
    exact wr_zret1 (wg_da dt_X11_act 22 rfl) h
theorem m_X11_act (l : Launch) (E : wg_E) (x0 : Nat) (x1 : Int32) (x2 : Int32) (x3 : Int32) (hx0 : wg_t Sc x0 = 13) (σ : wg_M) (q : Int32 × wg_M) (h : f_X11_act x0 x1 x2 x3 σ = some q) : wg_MG l E Sc yX11_act cX11_act 4 (some .boolean) rm_X11_act [.ref x0, .int x1, .int x2, .int x3] σ (some q.1) q.2 :=
  wg_met [.ref x0, .int x1, .int x2, .int x3] (plainFor_of_name (by decide)) (Nat.le_of_ble_eq_true rfl) (g_X11_act_e l E x0 x1 x2 x3 σ q hx0 h)
abbrev rm_X11_years : Room := { frames := 7, cells := 0, slots := 0, locals := 171 }
def tb_X11_years : List (Nat × Instr × Nat) := [(0, .iload_n 1, 1), (1, .iconst 1, 1), (2, .bipush 60, 2), (4, .invokestatic 73, 3), (7, .ifCond .eq 21, 3), (10, .aload_n 0, 1), (11, .getfield 12, 3), (14, .getfield 51, 3), (17, .getfield 149, 3), (20, .sipush 9999, 3), (23, .iload_n 1, 1), (24, .isub, 1), (25, .if_icmp .le 5, 3), (28, .iconst (-1), 1), (29, .ireturn, 1), (30, .iconst 0, 1), (31, .istore_n 2, 1), (32, .iconst 0, 1), (33, .istore_n 3, 1), (34, .iload_n 3, 1), (35, .iload_n 1, 1), (36, .if_icmp .ge 41, 3), (39, .iload_n 3, 1), (40, .iload_n 1, 1), (41, .bipush 6, 2), (43, .isub, 1), (44, .if_icmp .lt 17, 3), (47, .aload_n 0, 1), (48, .getfield 22, 3), (51, .aload_n 0, 1), (52, .getfield 12, 3), (55, .getfield 51, 3), (58, .invokevirtual 131, 3), (61, .iload_n 2, 1), (62, .aload_n 0, 1), (63, .getfield 38, 3), (66, .invokevirtual 152, 3), (69, .iadd, 1), (70, .istore_n 2, 1), (71, .iinc 3 1, 3), (74, .goto (-40), 3), (77, .iload_n 2, 1), (78, .ireturn, 1)]
theorem dt_X11_years : wg_dc cX11_years tb_X11_years := by unfold wg_dc; decide +kernel
def f_X11_years_61 (k34 : Nat → Int32 → Int32 → Int32 → wg_M → Option (Int32 × wg_M)) (x0 : Nat) (x1 : Int32) (x2 : Int32) (x3 : Int32) (σ : wg_M) : Option (Int32 × wg_M) := wg_bd (f_X1_passYear (wg_r Sc x0 4) σ) (fun v1 s2 => wg_let (x2 + v1) (fun v3 => wg_let (x3 + (1 : Int32)) (fun v4 => k34 x0 x1 v3 v4 s2)))
def f_X11_years_34  : Nat → Nat → Int32 → Int32 → Int32 → wg_M → Option (Int32 × wg_M)
  | 0, _, _, _, _, _ => none
  | n + 1, x0, x1, x2, x3, σ => if x1 ≤ x3 then (some (x2, σ)) else (if x3 < (x1 - (6 : Int32)) then (f_X11_years_61 (f_X11_years_34  n) x0 x1 x2 x3 σ) else (wg_bd (f_X5_remember (wg_r Sc x0 2) (wg_r Sc (wg_r Sc x0 0) 0) σ) (fun _ s1 => f_X11_years_61 (f_X11_years_34  n) x0 x1 x2 x3 s1)))
def f_X11_years  (x0 : Nat) (x1 : Int32) (σ : wg_M) : Option (Int32 × wg_M) := wg_bd (f_X11_within x1 (1 : Int32) (60 : Int32) σ) (fun v1 s2 => if v1 = 0 then (some ((-1 : Int32), s2)) else (if (s2 (wg_r Sc (wg_r Sc x0 0) 0) 7) ≤ ((9999 : Int32) - x1) then (f_X11_years_34  wg_N x0 x1 (0 : Int32) (0 : Int32) s2) else (some ((-1 : Int32), s2))))
set_option maxRecDepth 20000 in
theorem g_X11_years_61 (l : Launch) (E : wg_E) (k34 : Nat → Int32 → Int32 → Int32 → wg_M → Option (Int32 × wg_M)) (x0 : Nat) (x1 : Int32) (x2 : Int32) (x3 : Int32) (σ : wg_M) (z : Int32 × wg_M) (hx0 : wg_t Sc x0 = 13) (hk34 : ∀ (x0 : Nat) (x1 : Int32) (x2 : Int32) (x3 : Int32) (σ : wg_M), wg_t Sc x0 = 13 → k34 x0 x1 x2 x3 σ = some z → wg_G l E Sc "WornWigs" cX11_years 4 (some .int) rm_X11_years (some z.1) z.2 34 [some (.ref x0), some (.int x1), some (.int x2), some (.int x3)] [] σ) (h : f_X11_years_61 k34 x0 x1 x2 x3 σ = some z) : wg_G l E Sc "WornWigs" cX11_years 4 (some .int) rm_X11_years (some z.1) z.2 61 [some (.ref x0), some (.int x1), some (.int x2), some (.int x3)] [] σ := by
  refine wr_iload_n (wg_da dt_X11_years 33 rfl) rfl ?_
  refine wr_aload_n (wg_da dt_X11_years 34 rfl) rfl ?_
  refine wr_getR wf_X11_38 (wg_da dt_X11_years 35 rfl) hx0 ?_
  refine wr_callVi [] [.int x2] (wg_da dt_X11_years 36 rfl) ⟨wq_4_26, wq_4_27, wq_4_28⟩ (wg_ty Sc_ok 11 4 3 hx0 rfl (by decide)).2 ⟨rfl, by decide⟩ wy_X1_passYear (fun q hq => m_X1_passYear l E (wg_r Sc x0 4) (wg_ty Sc_ok 11 4 3 hx0 rfl (by decide)).2 _ q hq) rfl rfl (Nat.le_of_ble_eq_true rfl) ⟨rfl, rfl, by decide, by decide⟩ h (fun v1 s2 h => ?_)
  refine wr_iadd (wg_da dt_X11_years 37 rfl) ?_
  refine wr_let h (fun v3 h => ?_)
  refine wr_istore_n (wg_da dt_X11_years 38 rfl) (by decide) ?_
  refine wr_iinc (c0 := (1 : Int32)) (wg_da dt_X11_years 39 rfl) rfl (by decide) (by decide) h (fun v4 h => ?_)
  refine wr_goto 34 (wg_da dt_X11_years 40 rfl) (by decide) ?_
  exact wr_wk [true, true, true, true] (hk34 x0 x1 v3 v4 s2 hx0 h)
set_option maxRecDepth 20000 in
theorem g_X11_years_34 (l : Launch) (E : wg_E)  (z : Int32 × wg_M) : ∀ (n : Nat) (x0 : Nat) (x1 : Int32) (x2 : Int32) (x3 : Int32) (σ : wg_M) (hx0 : wg_t Sc x0 = 13) (h : f_X11_years_34  n x0 x1 x2 x3 σ = some z), wg_G l E Sc "WornWigs" cX11_years 4 (some .int) rm_X11_years (some z.1) z.2 34 [some (.ref x0), some (.int x1), some (.int x2), some (.int x3)] [] σ := by
  intro n
  induction n with
  | zero => intro x0 x1 x2 x3 σ hx0 h; cases h
  | succ n ih =>
    intro x0 x1 x2 x3 σ hx0 h
    refine wr_iload_n (wg_da dt_X11_years 19 rfl) rfl ?_
    refine wr_iload_n (wg_da dt_X11_years 20 rfl) rfl ?_
    refine wr_icmp_ge 77 (wg_da dt_X11_years 21 rfl) (by decide) h (fun h => ?_) (fun h => ?_)
    · refine wr_iload_n (wg_da dt_X11_years 41 rfl) rfl ?_
      exact wr_iret (wg_da dt_X11_years 42 rfl) h
    · refine wr_iload_n (wg_da dt_X11_years 22 rfl) rfl ?_
      refine wr_iload_n (wg_da dt_X11_years 23 rfl) rfl ?_
      refine wr_bipush (6 : Int32) (wg_da dt_X11_years 24 rfl) (by decide) ?_
      refine wr_isub (wg_da dt_X11_years 25 rfl) ?_
      refine wr_icmp_lt 61 (wg_da dt_X11_years 26 rfl) (by decide) h (fun h => ?_) (fun h => ?_)
      · exact wr_wk [true, true, true, true] (g_X11_years_61 l E (f_X11_years_34  n) x0 x1 x2 x3 σ _ hx0 (fun x0 x1 x2 x3 σ hx0 h => ih x0 x1 x2 x3 σ hx0 h) h)
      · refine wr_aload_n (wg_da dt_X11_years 27 rfl) rfl ?_
        refine wr_getR wf_X11_22 (wg_da dt_X11_years 28 rfl) hx0 ?_
        refine wr_aload_n (wg_da dt_X11_years 29 rfl) rfl ?_
        refine wr_getR wf_X11_12 (wg_da dt_X11_years 30 rfl) hx0 ?_
        refine wr_getR wf_X11_51 (wg_da dt_X11_years 31 rfl) (wg_ty Sc_ok 11 0 12 hx0 rfl (by decide)).2 ?_
        refine wr_callVv [.ref (wg_r Sc (wg_r Sc x0 0) 0)] [] (wg_da dt_X11_years 32 rfl) ⟨wq_3_130, wq_3_131, wq_3_132⟩ (wg_ty Sc_ok 11 2 7 hx0 rfl (by decide)).2 ⟨rfl, by decide⟩ wy_X5_remember (fun q hq => m_X5_remember l E (wg_r Sc x0 2) (wg_r Sc (wg_r Sc x0 0) 0) (wg_ty Sc_ok 11 2 7 hx0 rfl (by decide)).2 (wg_ty Sc_ok 10 0 2 (wg_ty Sc_ok 11 0 12 hx0 rfl (by decide)).2 rfl (by decide)).2 _ q hq) rfl rfl (Nat.le_of_ble_eq_true rfl) ⟨rfl, rfl, by decide, by decide⟩ h (fun _ s1 h => ?_)
        exact wr_wk [true, true, true, true] (g_X11_years_61 l E (f_X11_years_34  n) x0 x1 x2 x3 s1 _ hx0 (fun x0 x1 x2 x3 σ hx0 h => ih x0 x1 x2 x3 σ hx0 h) h)
set_option maxRecDepth 20000 in
theorem g_X11_years_e (l : Launch) (E : wg_E)  (x0 : Nat) (x1 : Int32) (σ : wg_M) (z : Int32 × wg_M) (hx0 : wg_t Sc x0 = 13) (h : f_X11_years  x0 x1 σ = some z) : wg_G l E Sc "WornWigs" cX11_years 4 (some .int) rm_X11_years (some z.1) z.2 0 [some (.ref x0), some (.int x1), none, none] [] σ := by
  refine wr_iload_n (wg_da dt_X11_years 0 rfl) rfl ?_
  refine wr_iconst (1 : Int32) (wg_da dt_X11_years 1 rfl) (by decide) ?_
  refine wr_bipush (60 : Int32) (wg_da dt_X11_years 2 rfl) (by decide) ?_
  refine wr_callSi [.int x1, .int (1 : Int32), .int (60 : Int32)] [] (wg_da dt_X11_years 3 rfl) ⟨wq_3_48, wq_3_49⟩ wy_X11_within (fun q hq => m_X11_within l E x1 (1 : Int32) (60 : Int32)  _ q hq) rfl rfl (Nat.le_of_ble_eq_true rfl) ⟨rfl, rfl, by decide, by decide⟩ h (fun v1 s2 h => ?_)
  refine wr_if_eq 28 (wg_da dt_X11_years 4 rfl) (by decide) h (fun h => ?_) (fun h => ?_)
  · refine wr_iconst (-1 : Int32) (wg_da dt_X11_years 13 rfl) (by decide) ?_
    exact wr_iret (wg_da dt_X11_years 14 rfl) h
  · refine wr_aload_n (wg_da dt_X11_years 5 rfl) rfl ?_
    refine wr_getR wf_X11_12 (wg_da dt_X11_years 6 rfl) hx0 ?_
    refine wr_getR wf_X11_51 (wg_da dt_X11_years 7 rfl) (wg_ty Sc_ok 11 0 12 hx0 rfl (by decide)).2 ?_
    refine wr_getI wf_X11_149 (wg_da dt_X11_years 8 rfl) (wg_ty Sc_ok 10 0 2 (wg_ty Sc_ok 11 0 12 hx0 rfl (by decide)).2 rfl (by decide)).2 ?_
    refine wr_sipush (9999 : Int32) (wg_da dt_X11_years 9 rfl) (by decide) ?_
    refine wr_iload_n (wg_da dt_X11_years 10 rfl) rfl ?_
    refine wr_isub (wg_da dt_X11_years 11 rfl) ?_
    refine wr_icmp_le 30 (wg_da dt_X11_years 12 rfl) (by decide) h (fun h => ?_) (fun h => ?_)
    · refine wr_iconst (0 : Int32) (wg_da dt_X11_years 15 rfl) (by decide) ?_
      refine wr_istore_n (wg_da dt_X11_years 16 rfl) (by decide) ?_
      refine wr_iconst (0 : Int32) (wg_da dt_X11_years 17 rfl) (by decide) ?_
      refine wr_istore_n (wg_da dt_X11_years 18 rfl) (by decide) ?_
      exact wr_wk [true, true, true, true] (g_X11_years_34 l E  _  wg_N x0 x1 (0 : Int32) (0 : Int32) s2 hx0 h)
    · refine wr_iconst (-1 : Int32) (wg_da dt_X11_years 13 rfl) (by decide) ?_
      exact wr_iret (wg_da dt_X11_years 14 rfl) h
theorem m_X11_years (l : Launch) (E : wg_E) (x0 : Nat) (x1 : Int32) (hx0 : wg_t Sc x0 = 13) (σ : wg_M) (q : Int32 × wg_M) (h : f_X11_years x0 x1 σ = some q) : wg_MG l E Sc yX11_years cX11_years 4 (some .int) rm_X11_years [.ref x0, .int x1] σ (some q.1) q.2 :=
  wg_met [.ref x0, .int x1] (plainFor_of_name (by decide)) (Nat.le_of_ble_eq_true rfl) (g_X11_years_e l E x0 x1 σ q hx0 h)
abbrev rm_X11_feed : Room := { frames := 1, cells := 0, slots := 0, locals := 22 }
def tb_X11_feed : List (Nat × Instr × Nat) := [(0, .aload_n 0, 1), (1, .getfield 31, 3), (4, .bipush 20, 2), (6, .invokevirtual 156, 3), (9, .ifCond .ne 5, 3), (12, .iconst (-1), 1), (13, .ireturn, 1), (14, .aload_n 0, 1), (15, .getfield 31, 3), (18, .iload_n 1, 1), (19, .invokevirtual 159, 3), (22, .aload_n 0, 1), (23, .getfield 31, 3), (26, .iload_n 2, 1), (27, .invokevirtual 159, 3), (30, .aload_n 0, 1), (31, .getfield 31, 3), (34, .iload_n 3, 1), (35, .invokevirtual 159, 3), (38, .aload_n 0, 1), (39, .getfield 31, 3), (42, .iload 4, 2), (44, .invokevirtual 159, 3), (47, .aload_n 0, 1), (48, .getfield 31, 3), (51, .iload 5, 2), (53, .invokevirtual 159, 3), (56, .aload_n 0, 1), (57, .getfield 31, 3), (60, .getfield 163, 3), (63, .ireturn, 1)]
theorem dt_X11_feed : wg_dc cX11_feed tb_X11_feed := by unfold wg_dc; decide +kernel
def f_X11_feed  (x0 : Nat) (x1 : Int32) (x2 : Int32) (x3 : Int32) (x4 : Int32) (x5 : Int32) (σ : wg_M) : Option (Int32 × wg_M) := wg_bd (f_X6_hasRoomFor (wg_r Sc x0 3) (20 : Int32) σ) (fun v1 s2 => if v1 = 0 then (some ((-1 : Int32), s2)) else (wg_bd (f_X6_addNumber (wg_r Sc x0 3) x1 s2) (fun _ s3 => wg_bd (f_X6_addNumber (wg_r Sc x0 3) x2 s3) (fun _ s4 => wg_bd (f_X6_addNumber (wg_r Sc x0 3) x3 s4) (fun _ s5 => wg_bd (f_X6_addNumber (wg_r Sc x0 3) x4 s5) (fun _ s6 => wg_bd (f_X6_addNumber (wg_r Sc x0 3) x5 s6) (fun _ s7 => some (s7 (wg_r Sc x0 3) 2, s7))))))))
set_option maxRecDepth 20000 in
theorem g_X11_feed_e (l : Launch) (E : wg_E)  (x0 : Nat) (x1 : Int32) (x2 : Int32) (x3 : Int32) (x4 : Int32) (x5 : Int32) (σ : wg_M) (z : Int32 × wg_M) (hx0 : wg_t Sc x0 = 13) (h : f_X11_feed  x0 x1 x2 x3 x4 x5 σ = some z) : wg_G l E Sc "WornWigs" cX11_feed 6 (some .int) rm_X11_feed (some z.1) z.2 0 [some (.ref x0), some (.int x1), some (.int x2), some (.int x3), some (.int x4), some (.int x5)] [] σ := by
  refine wr_aload_n (wg_da dt_X11_feed 0 rfl) rfl ?_
  refine wr_getR wf_X11_31 (wg_da dt_X11_feed 1 rfl) hx0 ?_
  refine wr_bipush (20 : Int32) (wg_da dt_X11_feed 2 rfl) (by decide) ?_
  refine wr_callVi [.int (20 : Int32)] [] (wg_da dt_X11_feed 3 rfl) ⟨wq_4_69, wq_4_70, wq_4_71⟩ (wg_ty Sc_ok 11 3 8 hx0 rfl (by decide)).2 ⟨rfl, by decide⟩ wy_X6_hasRoomFor (fun q hq => m_X6_hasRoomFor l E (wg_r Sc x0 3) (20 : Int32) (wg_ty Sc_ok 11 3 8 hx0 rfl (by decide)).2 _ q hq) rfl rfl (Nat.le_of_ble_eq_true rfl) ⟨rfl, rfl, by decide, by decide⟩ h (fun v1 s2 h => ?_)
  refine wr_if_ne 14 (wg_da dt_X11_feed 4 rfl) (by decide) h (fun h => ?_) (fun h => ?_)
  · refine wr_iconst (-1 : Int32) (wg_da dt_X11_feed 5 rfl) (by decide) ?_
    exact wr_iret (wg_da dt_X11_feed 6 rfl) h
  · refine wr_aload_n (wg_da dt_X11_feed 7 rfl) rfl ?_
    refine wr_getR wf_X11_31 (wg_da dt_X11_feed 8 rfl) hx0 ?_
    refine wr_iload_n (wg_da dt_X11_feed 9 rfl) rfl ?_
    refine wr_callVv [.int x1] [] (wg_da dt_X11_feed 10 rfl) ⟨wq_4_73, wq_4_74, wq_4_75⟩ (wg_ty Sc_ok 11 3 8 hx0 rfl (by decide)).2 ⟨rfl, by decide⟩ wy_X6_addNumber (fun q hq => m_X6_addNumber l E (wg_r Sc x0 3) x1 (wg_ty Sc_ok 11 3 8 hx0 rfl (by decide)).2 _ q hq) rfl rfl (Nat.le_of_ble_eq_true rfl) ⟨rfl, rfl, by decide, by decide⟩ h (fun _ s3 h => ?_)
    refine wr_aload_n (wg_da dt_X11_feed 11 rfl) rfl ?_
    refine wr_getR wf_X11_31 (wg_da dt_X11_feed 12 rfl) hx0 ?_
    refine wr_iload_n (wg_da dt_X11_feed 13 rfl) rfl ?_
    refine wr_callVv [.int x2] [] (wg_da dt_X11_feed 14 rfl) ⟨wq_4_73, wq_4_74, wq_4_75⟩ (wg_ty Sc_ok 11 3 8 hx0 rfl (by decide)).2 ⟨rfl, by decide⟩ wy_X6_addNumber (fun q hq => m_X6_addNumber l E (wg_r Sc x0 3) x2 (wg_ty Sc_ok 11 3 8 hx0 rfl (by decide)).2 _ q hq) rfl rfl (Nat.le_of_ble_eq_true rfl) ⟨rfl, rfl, by decide, by decide⟩ h (fun _ s4 h => ?_)
    refine wr_aload_n (wg_da dt_X11_feed 15 rfl) rfl ?_
    refine wr_getR wf_X11_31 (wg_da dt_X11_feed 16 rfl) hx0 ?_
    refine wr_iload_n (wg_da dt_X11_feed 17 rfl) rfl ?_
    refine wr_callVv [.int x3] [] (wg_da dt_X11_feed 18 rfl) ⟨wq_4_73, wq_4_74, wq_4_75⟩ (wg_ty Sc_ok 11 3 8 hx0 rfl (by decide)).2 ⟨rfl, by decide⟩ wy_X6_addNumber (fun q hq => m_X6_addNumber l E (wg_r Sc x0 3) x3 (wg_ty Sc_ok 11 3 8 hx0 rfl (by decide)).2 _ q hq) rfl rfl (Nat.le_of_ble_eq_true rfl) ⟨rfl, rfl, by decide, by decide⟩ h (fun _ s5 h => ?_)
    refine wr_aload_n (wg_da dt_X11_feed 19 rfl) rfl ?_
    refine wr_getR wf_X11_31 (wg_da dt_X11_feed 20 rfl) hx0 ?_
    refine wr_iload (wg_da dt_X11_feed 21 rfl) rfl ?_
    refine wr_callVv [.int x4] [] (wg_da dt_X11_feed 22 rfl) ⟨wq_4_73, wq_4_74, wq_4_75⟩ (wg_ty Sc_ok 11 3 8 hx0 rfl (by decide)).2 ⟨rfl, by decide⟩ wy_X6_addNumber (fun q hq => m_X6_addNumber l E (wg_r Sc x0 3) x4 (wg_ty Sc_ok 11 3 8 hx0 rfl (by decide)).2 _ q hq) rfl rfl (Nat.le_of_ble_eq_true rfl) ⟨rfl, rfl, by decide, by decide⟩ h (fun _ s6 h => ?_)
    refine wr_aload_n (wg_da dt_X11_feed 23 rfl) rfl ?_
    refine wr_getR wf_X11_31 (wg_da dt_X11_feed 24 rfl) hx0 ?_
    refine wr_iload (wg_da dt_X11_feed 25 rfl) rfl ?_
    refine wr_callVv [.int x5] [] (wg_da dt_X11_feed 26 rfl) ⟨wq_4_73, wq_4_74, wq_4_75⟩ (wg_ty Sc_ok 11 3 8 hx0 rfl (by decide)).2 ⟨rfl, by decide⟩ wy_X6_addNumber (fun q hq => m_X6_addNumber l E (wg_r Sc x0 3) x5 (wg_ty Sc_ok 11 3 8 hx0 rfl (by decide)).2 _ q hq) rfl rfl (Nat.le_of_ble_eq_true rfl) ⟨rfl, rfl, by decide, by decide⟩ h (fun _ s7 h => ?_)
    refine wr_aload_n (wg_da dt_X11_feed 27 rfl) rfl ?_
    refine wr_getR wf_X11_31 (wg_da dt_X11_feed 28 rfl) hx0 ?_
    refine wr_getI wf_X11_163 (wg_da dt_X11_feed 29 rfl) (wg_ty Sc_ok 11 3 8 hx0 rfl (by decide)).2 ?_
    exact wr_iret (wg_da dt_X11_feed 30 rfl) h
theorem m_X11_feed (l : Launch) (E : wg_E) (x0 : Nat) (x1 : Int32) (x2 : Int32) (x3 : Int32) (x4 : Int32) (x5 : Int32) (hx0 : wg_t Sc x0 = 13) (σ : wg_M) (q : Int32 × wg_M) (h : f_X11_feed x0 x1 x2 x3 x4 x5 σ = some q) : wg_MG l E Sc yX11_feed cX11_feed 6 (some .int) rm_X11_feed [.ref x0, .int x1, .int x2, .int x3, .int x4, .int x5] σ (some q.1) q.2 :=
  wg_met [.ref x0, .int x1, .int x2, .int x3, .int x4, .int x5] (plainFor_of_name (by decide)) (Nat.le_of_ble_eq_true rfl) (g_X11_feed_e l E x0 x1 x2 x3 x4 x5 σ q hx0 h)
abbrev rm_X11_end : Room := { frames := 1, cells := 0, slots := 0, locals := 22 }
def tb_X11_end : List (Nat × Instr × Nat) := [(0, .iload_n 1, 1), (1, .iconst 0, 1), (2, .aload_n 0, 1), (3, .getfield 31, 3), (6, .getfield 163, 3), (9, .invokestatic 73, 3), (12, .ifCond .ne 5, 3), (15, .iconst 0, 1), (16, .ireturn, 1), (17, .aload_n 0, 1), (18, .getfield 31, 3), (21, .iload_n 1, 1), (22, .putfield 163, 3), (25, .iconst 1, 1), (26, .ireturn, 1)]
theorem dt_X11_end : wg_dc cX11_end tb_X11_end := by unfold wg_dc; decide +kernel
def f_X11_end  (x0 : Nat) (x1 : Int32) (σ : wg_M) : Option (Int32 × wg_M) := wg_bd (f_X11_within x1 (0 : Int32) (σ (wg_r Sc x0 3) 2) σ) (fun v1 s2 => if v1 = 0 then (some ((0 : Int32), s2)) else (wg_st s2 (wg_r Sc x0 3) 2 x1 (fun s3 => some ((1 : Int32), s3))))
set_option maxRecDepth 20000 in
theorem g_X11_end_e (l : Launch) (E : wg_E)  (x0 : Nat) (x1 : Int32) (σ : wg_M) (z : Int32 × wg_M) (hx0 : wg_t Sc x0 = 13) (h : f_X11_end  x0 x1 σ = some z) : wg_G l E Sc "WornWigs" cX11_end 2 (some .boolean) rm_X11_end (some z.1) z.2 0 [some (.ref x0), some (.int x1)] [] σ := by
  refine wr_iload_n (wg_da dt_X11_end 0 rfl) rfl ?_
  refine wr_iconst (0 : Int32) (wg_da dt_X11_end 1 rfl) (by decide) ?_
  refine wr_aload_n (wg_da dt_X11_end 2 rfl) rfl ?_
  refine wr_getR wf_X11_31 (wg_da dt_X11_end 3 rfl) hx0 ?_
  refine wr_getI wf_X11_163 (wg_da dt_X11_end 4 rfl) (wg_ty Sc_ok 11 3 8 hx0 rfl (by decide)).2 ?_
  refine wr_callSi [.int x1, .int (0 : Int32), .int (σ (wg_r Sc x0 3) 2)] [] (wg_da dt_X11_end 5 rfl) ⟨wq_3_48, wq_3_49⟩ wy_X11_within (fun q hq => m_X11_within l E x1 (0 : Int32) (σ (wg_r Sc x0 3) 2)  _ q hq) rfl rfl (Nat.le_of_ble_eq_true rfl) ⟨rfl, rfl, by decide, by decide⟩ h (fun v1 s2 h => ?_)
  refine wr_if_ne 17 (wg_da dt_X11_end 6 rfl) (by decide) h (fun h => ?_) (fun h => ?_)
  · refine wr_iconst (0 : Int32) (wg_da dt_X11_end 7 rfl) (by decide) ?_
    exact wr_zret0 (wg_da dt_X11_end 8 rfl) h
  · refine wr_aload_n (wg_da dt_X11_end 9 rfl) rfl ?_
    refine wr_getR wf_X11_31 (wg_da dt_X11_end 10 rfl) hx0 ?_
    refine wr_iload_n (wg_da dt_X11_end 11 rfl) rfl ?_
    refine wr_putI wfp_X11_163 (wg_da dt_X11_end 12 rfl) (wg_ty Sc_ok 11 3 8 hx0 rfl (by decide)).2 h (fun s3 h => ?_)
    refine wr_iconst (1 : Int32) (wg_da dt_X11_end 13 rfl) (by decide) ?_
    exact wr_zret1 (wg_da dt_X11_end 14 rfl) h
theorem m_X11_end (l : Launch) (E : wg_E) (x0 : Nat) (x1 : Int32) (hx0 : wg_t Sc x0 = 13) (σ : wg_M) (q : Int32 × wg_M) (h : f_X11_end x0 x1 σ = some q) : wg_MG l E Sc yX11_end cX11_end 2 (some .boolean) rm_X11_end [.ref x0, .int x1] σ (some q.1) q.2 :=
  wg_met [.ref x0, .int x1] (plainFor_of_name (by decide)) (Nat.le_of_ble_eq_true rfl) (g_X11_end_e l E x0 x1 σ q hx0 h)
abbrev rm_X11_fault : Room := { frames := 0, cells := 0, slots := 0, locals := 0 }
def tb_X11_fault : List (Nat × Instr × Nat) := [(0, .iload_n 1, 1), (1, .lookupswitch 43 #[(0, 27), (1, 35)], 27), (28, .aload_n 0, 1), (29, .getfield 31, 3), (32, .getfield 191, 3), (35, .ireturn, 1), (36, .aload_n 0, 1), (37, .getfield 31, 3), (40, .getfield 194, 3), (43, .ireturn, 1), (44, .iconst (-1), 1), (45, .ireturn, 1)]
theorem dt_X11_fault : wg_dc cX11_fault tb_X11_fault := by unfold wg_dc; decide +kernel
def f_X11_fault  (x0 : Nat) (x1 : Int32) (σ : wg_M) : Option (Int32 × wg_M) := wg_lz x1 [0, 1] [some (σ (wg_r Sc x0 3) 8, σ), some (σ (wg_r Sc x0 3) 9, σ)] (some ((-1 : Int32), σ))
set_option maxRecDepth 20000 in
theorem g_X11_fault_e (l : Launch) (E : wg_E)  (x0 : Nat) (x1 : Int32) (σ : wg_M) (z : Int32 × wg_M) (hx0 : wg_t Sc x0 = 13) (h : f_X11_fault  x0 x1 σ = some z) : wg_G l E Sc "WornWigs" cX11_fault 2 (some .int) rm_X11_fault (some z.1) z.2 0 [some (.ref x0), some (.int x1)] [] σ := by
  refine wr_iload_n (wg_da dt_X11_fault 0 rfl) rfl ?_
  refine wr_lsw [0, 1] [28, 36] 44 (wg_da dt_X11_fault 1 rfl) (by decide) (by decide) (by decide) rfl (by decide) h (wg_all_c (fun h => ?_) (wg_all_c (fun h => ?_) (wg_all_n))) (fun h => ?_)
  · refine wr_aload_n (wg_da dt_X11_fault 2 rfl) rfl ?_
    refine wr_getR wf_X11_31 (wg_da dt_X11_fault 3 rfl) hx0 ?_
    refine wr_getI wf_X11_191 (wg_da dt_X11_fault 4 rfl) (wg_ty Sc_ok 11 3 8 hx0 rfl (by decide)).2 ?_
    exact wr_iret (wg_da dt_X11_fault 5 rfl) h
  · refine wr_aload_n (wg_da dt_X11_fault 6 rfl) rfl ?_
    refine wr_getR wf_X11_31 (wg_da dt_X11_fault 7 rfl) hx0 ?_
    refine wr_getI wf_X11_194 (wg_da dt_X11_fault 8 rfl) (wg_ty Sc_ok 11 3 8 hx0 rfl (by decide)).2 ?_
    exact wr_iret (wg_da dt_X11_fault 9 rfl) h
  · refine wr_iconst (-1 : Int32) (wg_da dt_X11_fault 10 rfl) (by decide) ?_
    exact wr_iret (wg_da dt_X11_fault 11 rfl) h
theorem m_X11_fault (l : Launch) (E : wg_E) (x0 : Nat) (x1 : Int32) (hx0 : wg_t Sc x0 = 13) (σ : wg_M) (q : Int32 × wg_M) (h : f_X11_fault x0 x1 σ = some q) : wg_MG l E Sc yX11_fault cX11_fault 2 (some .int) rm_X11_fault [.ref x0, .int x1] σ (some q.1) q.2 :=
  wg_met [.ref x0, .int x1] (plainFor_of_name (by decide)) (Nat.le_of_ble_eq_true rfl) (g_X11_fault_e l E x0 x1 σ q hx0 h)
abbrev rm_X11_of : Room := { frames := 4, cells := 0, slots := 0, locals := 93 }
def tb_X11_of : List (Nat × Instr × Nat) := [(0, .aload_n 0, 1), (1, .getfield 12, 3), (4, .getfield 51, 3), (7, .getfield 64, 3), (10, .astore_n 3, 1), (11, .aload_n 3, 1), (12, .iload_n 1, 1), (13, .invokevirtual 95, 3), (16, .ifCond .ne 6, 3), (19, .bipush (-2), 2), (21, .ireturn, 1), (22, .iload_n 2, 1), (23, .tableswitch 100 0 6 #[41, 48, 55, 62, 69, 84, 91], 41), (64, .aload_n 3, 1), (65, .getfield 197, 3), (68, .iload_n 1, 1), (69, .iaload, 1), (70, .ireturn, 1), (71, .aload_n 3, 1), (72, .getfield 118, 3), (75, .iload_n 1, 1), (76, .iaload, 1), (77, .ireturn, 1), (78, .aload_n 3, 1), (79, .getfield 200, 3), (82, .iload_n 1, 1), (83, .iaload, 1), (84, .ireturn, 1), (85, .aload_n 3, 1), (86, .getfield 203, 3), (89, .iload_n 1, 1), (90, .iaload, 1), (91, .ireturn, 1), (92, .aload_n 0, 1), (93, .getfield 12, 3), (96, .getfield 51, 3), (99, .getfield 81, 3), (102, .iload_n 1, 1), (103, .invokevirtual 206, 3), (106, .ireturn, 1), (107, .aload_n 3, 1), (108, .getfield 99, 3), (111, .iload_n 1, 1), (112, .iaload, 1), (113, .ireturn, 1), (114, .aload_n 0, 1), (115, .getfield 38, 3), (118, .iload_n 1, 1), (119, .invokevirtual 210, 3), (122, .ireturn, 1), (123, .bipush (-2), 2), (125, .ireturn, 1)]
theorem dt_X11_of : wg_dc cX11_of tb_X11_of := by unfold wg_dc; decide +kernel
def f_X11_of  (x0 : Nat) (x1 : Int32) (x2 : Int32) (σ : wg_M) : Option (Int32 × wg_M) := wg_bd (f_X9_has (wg_r Sc (wg_r Sc (wg_r Sc x0 0) 0) 0) x1 σ) (fun v1 s2 => if v1 = 0 then (some ((-2 : Int32), s2)) else (wg_sw x2 (0) [wg_ga (wg_n Sc (wg_r Sc (wg_r Sc (wg_r Sc (wg_r Sc x0 0) 0) 0) 0)) (s2 (wg_r Sc (wg_r Sc (wg_r Sc (wg_r Sc x0 0) 0) 0) 0)) x1 (fun v3 => some (v3, s2)), wg_ga (wg_n Sc (wg_r Sc (wg_r Sc (wg_r Sc (wg_r Sc x0 0) 0) 0) 1)) (s2 (wg_r Sc (wg_r Sc (wg_r Sc (wg_r Sc x0 0) 0) 0) 1)) x1 (fun v4 => some (v4, s2)), wg_ga (wg_n Sc (wg_r Sc (wg_r Sc (wg_r Sc (wg_r Sc x0 0) 0) 0) 2)) (s2 (wg_r Sc (wg_r Sc (wg_r Sc (wg_r Sc x0 0) 0) 0) 2)) x1 (fun v5 => some (v5, s2)), wg_ga (wg_n Sc (wg_r Sc (wg_r Sc (wg_r Sc (wg_r Sc x0 0) 0) 0) 3)) (s2 (wg_r Sc (wg_r Sc (wg_r Sc (wg_r Sc x0 0) 0) 0) 3)) x1 (fun v6 => some (v6, s2)), wg_bd (f_X2_wearer (wg_r Sc (wg_r Sc (wg_r Sc x0 0) 0) 1) x1 s2) (fun v7 s8 => some (v7, s8)), wg_ga (wg_n Sc (wg_r Sc (wg_r Sc (wg_r Sc (wg_r Sc x0 0) 0) 0) 4)) (s2 (wg_r Sc (wg_r Sc (wg_r Sc (wg_r Sc x0 0) 0) 0) 4)) x1 (fun v9 => some (v9, s2)), wg_bd (f_X1_mothOf (wg_r Sc x0 4) x1 s2) (fun v10 s11 => some (v10, s11))] (some ((-2 : Int32), s2))))
set_option maxRecDepth 20000 in
theorem g_X11_of_e (l : Launch) (E : wg_E)  (x0 : Nat) (x1 : Int32) (x2 : Int32) (σ : wg_M) (z : Int32 × wg_M) (hx0 : wg_t Sc x0 = 13) (h : f_X11_of  x0 x1 x2 σ = some z) : wg_G l E Sc "WornWigs" cX11_of 4 (some .int) rm_X11_of (some z.1) z.2 0 [some (.ref x0), some (.int x1), some (.int x2), none] [] σ := by
  refine wr_aload_n (wg_da dt_X11_of 0 rfl) rfl ?_
  refine wr_getR wf_X11_12 (wg_da dt_X11_of 1 rfl) hx0 ?_
  refine wr_getR wf_X11_51 (wg_da dt_X11_of 2 rfl) (wg_ty Sc_ok 11 0 12 hx0 rfl (by decide)).2 ?_
  refine wr_getR wf_X11_64 (wg_da dt_X11_of 3 rfl) (wg_ty Sc_ok 10 0 2 (wg_ty Sc_ok 11 0 12 hx0 rfl (by decide)).2 rfl (by decide)).2 ?_
  refine wr_astore_n (wg_da dt_X11_of 4 rfl) (by decide) ?_
  refine wr_aload_n (wg_da dt_X11_of 5 rfl) rfl ?_
  refine wr_iload_n (wg_da dt_X11_of 6 rfl) rfl ?_
  refine wr_callVi [.int x1] [] (wg_da dt_X11_of 7 rfl) ⟨wq_3_75, wq_3_76, wq_3_77⟩ (wg_ty Sc_ok 0 0 11 (wg_ty Sc_ok 10 0 2 (wg_ty Sc_ok 11 0 12 hx0 rfl (by decide)).2 rfl (by decide)).2 rfl (by decide)).2 ⟨rfl, by decide⟩ wy_X9_has (fun q hq => m_X9_has l E (wg_r Sc (wg_r Sc (wg_r Sc x0 0) 0) 0) x1 (wg_ty Sc_ok 0 0 11 (wg_ty Sc_ok 10 0 2 (wg_ty Sc_ok 11 0 12 hx0 rfl (by decide)).2 rfl (by decide)).2 rfl (by decide)).2 _ q hq) rfl rfl (Nat.le_of_ble_eq_true rfl) ⟨rfl, rfl, by decide, by decide⟩ h (fun v1 s2 h => ?_)
  refine wr_if_ne 22 (wg_da dt_X11_of 8 rfl) (by decide) h (fun h => ?_) (fun h => ?_)
  · refine wr_bipush (-2 : Int32) (wg_da dt_X11_of 9 rfl) (by decide) ?_
    exact wr_iret (wg_da dt_X11_of 10 rfl) h
  · refine wr_iload_n (wg_da dt_X11_of 11 rfl) rfl ?_
    refine wr_tsw [64, 71, 78, 85, 92, 107, 114] 123 (wg_da dt_X11_of 12 rfl) rfl rfl (by decide) (by decide) h (wg_all_c (fun h => ?_) (wg_all_c (fun h => ?_) (wg_all_c (fun h => ?_) (wg_all_c (fun h => ?_) (wg_all_c (fun h => ?_) (wg_all_c (fun h => ?_) (wg_all_c (fun h => ?_) (wg_all_n)))))))) (fun h => ?_)
    · refine wr_aload_n (wg_da dt_X11_of 13 rfl) rfl ?_
      refine wr_getR wf_X11_197 (wg_da dt_X11_of 14 rfl) (wg_ty Sc_ok 0 0 11 (wg_ty Sc_ok 10 0 2 (wg_ty Sc_ok 11 0 12 hx0 rfl (by decide)).2 rfl (by decide)).2 rfl (by decide)).2 ?_
      refine wr_iload_n (wg_da dt_X11_of 15 rfl) rfl ?_
      refine wr_iald (wg_da dt_X11_of 16 rfl) (wg_ty Sc_ok 9 0 0 (wg_ty Sc_ok 0 0 11 (wg_ty Sc_ok 10 0 2 (wg_ty Sc_ok 11 0 12 hx0 rfl (by decide)).2 rfl (by decide)).2 rfl (by decide)).2 rfl (by decide)).2 h (fun v3 h => ?_)
      exact wr_iret (wg_da dt_X11_of 17 rfl) h
    · refine wr_aload_n (wg_da dt_X11_of 18 rfl) rfl ?_
      refine wr_getR wf_X11_118 (wg_da dt_X11_of 19 rfl) (wg_ty Sc_ok 0 0 11 (wg_ty Sc_ok 10 0 2 (wg_ty Sc_ok 11 0 12 hx0 rfl (by decide)).2 rfl (by decide)).2 rfl (by decide)).2 ?_
      refine wr_iload_n (wg_da dt_X11_of 20 rfl) rfl ?_
      refine wr_iald (wg_da dt_X11_of 21 rfl) (wg_ty Sc_ok 9 1 0 (wg_ty Sc_ok 0 0 11 (wg_ty Sc_ok 10 0 2 (wg_ty Sc_ok 11 0 12 hx0 rfl (by decide)).2 rfl (by decide)).2 rfl (by decide)).2 rfl (by decide)).2 h (fun v4 h => ?_)
      exact wr_iret (wg_da dt_X11_of 22 rfl) h
    · refine wr_aload_n (wg_da dt_X11_of 23 rfl) rfl ?_
      refine wr_getR wf_X11_200 (wg_da dt_X11_of 24 rfl) (wg_ty Sc_ok 0 0 11 (wg_ty Sc_ok 10 0 2 (wg_ty Sc_ok 11 0 12 hx0 rfl (by decide)).2 rfl (by decide)).2 rfl (by decide)).2 ?_
      refine wr_iload_n (wg_da dt_X11_of 25 rfl) rfl ?_
      refine wr_iald (wg_da dt_X11_of 26 rfl) (wg_ty Sc_ok 9 2 0 (wg_ty Sc_ok 0 0 11 (wg_ty Sc_ok 10 0 2 (wg_ty Sc_ok 11 0 12 hx0 rfl (by decide)).2 rfl (by decide)).2 rfl (by decide)).2 rfl (by decide)).2 h (fun v5 h => ?_)
      exact wr_iret (wg_da dt_X11_of 27 rfl) h
    · refine wr_aload_n (wg_da dt_X11_of 28 rfl) rfl ?_
      refine wr_getR wf_X11_203 (wg_da dt_X11_of 29 rfl) (wg_ty Sc_ok 0 0 11 (wg_ty Sc_ok 10 0 2 (wg_ty Sc_ok 11 0 12 hx0 rfl (by decide)).2 rfl (by decide)).2 rfl (by decide)).2 ?_
      refine wr_iload_n (wg_da dt_X11_of 30 rfl) rfl ?_
      refine wr_iald (wg_da dt_X11_of 31 rfl) (wg_ty Sc_ok 9 3 0 (wg_ty Sc_ok 0 0 11 (wg_ty Sc_ok 10 0 2 (wg_ty Sc_ok 11 0 12 hx0 rfl (by decide)).2 rfl (by decide)).2 rfl (by decide)).2 rfl (by decide)).2 h (fun v6 h => ?_)
      exact wr_iret (wg_da dt_X11_of 32 rfl) h
    · refine wr_aload_n (wg_da dt_X11_of 33 rfl) rfl ?_
      refine wr_getR wf_X11_12 (wg_da dt_X11_of 34 rfl) hx0 ?_
      refine wr_getR wf_X11_51 (wg_da dt_X11_of 35 rfl) (wg_ty Sc_ok 11 0 12 hx0 rfl (by decide)).2 ?_
      refine wr_getR wf_X11_81 (wg_da dt_X11_of 36 rfl) (wg_ty Sc_ok 10 0 2 (wg_ty Sc_ok 11 0 12 hx0 rfl (by decide)).2 rfl (by decide)).2 ?_
      refine wr_iload_n (wg_da dt_X11_of 37 rfl) rfl ?_
      refine wr_callVi [.int x1] [] (wg_da dt_X11_of 38 rfl) ⟨wq_5_40, wq_3_232, wq_3_233⟩ (wg_ty Sc_ok 0 1 4 (wg_ty Sc_ok 10 0 2 (wg_ty Sc_ok 11 0 12 hx0 rfl (by decide)).2 rfl (by decide)).2 rfl (by decide)).2 ⟨rfl, by decide⟩ wy_X2_wearer (fun q hq => m_X2_wearer l E (wg_r Sc (wg_r Sc (wg_r Sc x0 0) 0) 1) x1 (wg_ty Sc_ok 0 1 4 (wg_ty Sc_ok 10 0 2 (wg_ty Sc_ok 11 0 12 hx0 rfl (by decide)).2 rfl (by decide)).2 rfl (by decide)).2 _ q hq) rfl rfl (Nat.le_of_ble_eq_true rfl) ⟨rfl, rfl, by decide, by decide⟩ h (fun v7 s8 h => ?_)
      exact wr_iret (wg_da dt_X11_of 39 rfl) h
    · refine wr_aload_n (wg_da dt_X11_of 40 rfl) rfl ?_
      refine wr_getR wf_X11_99 (wg_da dt_X11_of 41 rfl) (wg_ty Sc_ok 0 0 11 (wg_ty Sc_ok 10 0 2 (wg_ty Sc_ok 11 0 12 hx0 rfl (by decide)).2 rfl (by decide)).2 rfl (by decide)).2 ?_
      refine wr_iload_n (wg_da dt_X11_of 42 rfl) rfl ?_
      refine wr_iald (wg_da dt_X11_of 43 rfl) (wg_ty Sc_ok 9 4 0 (wg_ty Sc_ok 0 0 11 (wg_ty Sc_ok 10 0 2 (wg_ty Sc_ok 11 0 12 hx0 rfl (by decide)).2 rfl (by decide)).2 rfl (by decide)).2 rfl (by decide)).2 h (fun v9 h => ?_)
      exact wr_iret (wg_da dt_X11_of 44 rfl) h
    · refine wr_aload_n (wg_da dt_X11_of 45 rfl) rfl ?_
      refine wr_getR wf_X11_38 (wg_da dt_X11_of 46 rfl) hx0 ?_
      refine wr_iload_n (wg_da dt_X11_of 47 rfl) rfl ?_
      refine wr_callVi [.int x1] [] (wg_da dt_X11_of 48 rfl) ⟨wq_5_41, wq_4_62, wq_4_63⟩ (wg_ty Sc_ok 11 4 3 hx0 rfl (by decide)).2 ⟨rfl, by decide⟩ wy_X1_mothOf (fun q hq => m_X1_mothOf l E (wg_r Sc x0 4) x1 (wg_ty Sc_ok 11 4 3 hx0 rfl (by decide)).2 _ q hq) rfl rfl (Nat.le_of_ble_eq_true rfl) ⟨rfl, rfl, by decide, by decide⟩ h (fun v10 s11 h => ?_)
      exact wr_iret (wg_da dt_X11_of 49 rfl) h
    · refine wr_bipush (-2 : Int32) (wg_da dt_X11_of 50 rfl) (by decide) ?_
      exact wr_iret (wg_da dt_X11_of 51 rfl) h
theorem m_X11_of (l : Launch) (E : wg_E) (x0 : Nat) (x1 : Int32) (x2 : Int32) (hx0 : wg_t Sc x0 = 13) (σ : wg_M) (q : Int32 × wg_M) (h : f_X11_of x0 x1 x2 σ = some q) : wg_MG l E Sc yX11_of cX11_of 4 (some .int) rm_X11_of [.ref x0, .int x1, .int x2] σ (some q.1) q.2 :=
  wg_met [.ref x0, .int x1, .int x2] (plainFor_of_name (by decide)) (Nat.le_of_ble_eq_true rfl) (g_X11_of_e l E x0 x1 x2 σ q hx0 h)
abbrev rm_X11_ruleOf : Room := { frames := 4, cells := 0, slots := 0, locals := 96 }
def tb_X11_ruleOf : List (Nat × Instr × Nat) := [(0, .aload_n 0, 1), (1, .getfield 12, 3), (4, .getfield 51, 3), (7, .getfield 64, 3), (10, .astore 4, 2), (12, .aload 4, 2), (14, .iload_n 1, 1), (15, .iload_n 2, 1), (16, .invokevirtual 213, 3), (19, .ifCond .ne 6, 3), (22, .bipush (-100), 2), (24, .ireturn, 1), (25, .iload_n 1, 1), (26, .bipush 8, 2), (28, .imul, 1), (29, .iload_n 2, 1), (30, .iadd, 1), (31, .istore 5, 2), (33, .iload_n 3, 1), (34, .tableswitch 53 0 2 #[26, 35, 44], 26), (60, .aload 4, 2), (62, .getfield 216, 3), (65, .iload 5, 2), (67, .iaload, 1), (68, .ireturn, 1), (69, .aload 4, 2), (71, .getfield 219, 3), (74, .iload 5, 2), (76, .iaload, 1), (77, .ireturn, 1), (78, .aload 4, 2), (80, .getfield 222, 3), (83, .iload 5, 2), (85, .iaload, 1), (86, .ireturn, 1), (87, .iload_n 3, 1), (88, .bipush 10, 2), (90, .if_icmp .lt 27, 3), (93, .aload_n 0, 1), (94, .getfield 12, 3), (97, .getfield 51, 3), (100, .getfield 81, 3), (103, .iload_n 3, 1), (104, .bipush 10, 2), (106, .isub, 1), (107, .invokevirtual 107, 3), (110, .ifCond .eq 7, 3), (113, .iconst 1, 1), (114, .goto 4, 3), (117, .iconst 0, 1), (118, .istore 6, 2), (120, .iload 6, 2), (122, .ifCond .eq 19, 3), (125, .aload_n 0, 1), (126, .getfield 38, 3), (129, .iload_n 1, 1), (130, .iload_n 2, 1), (131, .iload_n 3, 1), (132, .bipush 10, 2), (134, .isub, 1), (135, .invokevirtual 225, 3), (138, .goto 5, 3), (141, .bipush (-100), 2), (143, .ireturn, 1)]
theorem dt_X11_ruleOf : wg_dc cX11_ruleOf tb_X11_ruleOf := by unfold wg_dc; decide +kernel
def f_X11_ruleOf_118  (x0 : Nat) (x1 : Int32) (x2 : Int32) (x3 : Int32) (t0 : Int32) (σ : wg_M) : Option (Int32 × wg_M) := if t0 = 0 then (some ((-100 : Int32), σ)) else (wg_bd (f_X1_countsOf (wg_r Sc x0 4) x1 x2 (x3 - (10 : Int32)) σ) (fun v1 s2 => some (v1, s2)))
def f_X11_ruleOf_117  (x0 : Nat) (x1 : Int32) (x2 : Int32) (x3 : Int32) (σ : wg_M) : Option (Int32 × wg_M) := f_X11_ruleOf_118  x0 x1 x2 x3 (0 : Int32) σ
def f_X11_ruleOf  (x0 : Nat) (x1 : Int32) (x2 : Int32) (x3 : Int32) (σ : wg_M) : Option (Int32 × wg_M) := wg_bd (f_X9_hasRule (wg_r Sc (wg_r Sc (wg_r Sc x0 0) 0) 0) x1 x2 σ) (fun v1 s2 => if v1 = 0 then (some ((-100 : Int32), s2)) else (wg_let ((x1 * (8 : Int32)) + x2) (fun v3 => wg_sw x3 (0) [wg_ga (wg_n Sc (wg_r Sc (wg_r Sc (wg_r Sc (wg_r Sc x0 0) 0) 0) 5)) (s2 (wg_r Sc (wg_r Sc (wg_r Sc (wg_r Sc x0 0) 0) 0) 5)) v3 (fun v4 => some (v4, s2)), wg_ga (wg_n Sc (wg_r Sc (wg_r Sc (wg_r Sc (wg_r Sc x0 0) 0) 0) 6)) (s2 (wg_r Sc (wg_r Sc (wg_r Sc (wg_r Sc x0 0) 0) 0) 6)) v3 (fun v5 => some (v5, s2)), wg_ga (wg_n Sc (wg_r Sc (wg_r Sc (wg_r Sc (wg_r Sc x0 0) 0) 0) 7)) (s2 (wg_r Sc (wg_r Sc (wg_r Sc (wg_r Sc x0 0) 0) 0) 7)) v3 (fun v6 => some (v6, s2))] (if x3 < (10 : Int32) then (f_X11_ruleOf_117  x0 x1 x2 x3 s2) else (wg_bd (f_X2_has (wg_r Sc (wg_r Sc (wg_r Sc x0 0) 0) 1) (x3 - (10 : Int32)) s2) (fun v7 s8 => if v7 = 0 then (f_X11_ruleOf_117  x0 x1 x2 x3 s8) else (f_X11_ruleOf_118  x0 x1 x2 x3 (1 : Int32) s8)))))))
set_option maxRecDepth 20000 in
theorem g_X11_ruleOf_118 (l : Launch) (E : wg_E)  (x0 : Nat) (x1 : Int32) (x2 : Int32) (x3 : Int32) (t0 : Int32) (σ : wg_M) (z : Int32 × wg_M) (hx0 : wg_t Sc x0 = 13) (h : f_X11_ruleOf_118  x0 x1 x2 x3 t0 σ = some z) : wg_G l E Sc "WornWigs" cX11_ruleOf 7 (some .int) rm_X11_ruleOf (some z.1) z.2 118 [some (.ref x0), some (.int x1), some (.int x2), some (.int x3), none, none, none] [.int t0] σ := by
  refine wr_istore (wg_da dt_X11_ruleOf 50 rfl) (by decide) ?_
  refine wr_iload (wg_da dt_X11_ruleOf 51 rfl) rfl ?_
  refine wr_if_eq 141 (wg_da dt_X11_ruleOf 52 rfl) (by decide) h (fun h => ?_) (fun h => ?_)
  · refine wr_bipush (-100 : Int32) (wg_da dt_X11_ruleOf 62 rfl) (by decide) ?_
    exact wr_iret (wg_da dt_X11_ruleOf 63 rfl) h
  · refine wr_aload_n (wg_da dt_X11_ruleOf 53 rfl) rfl ?_
    refine wr_getR wf_X11_38 (wg_da dt_X11_ruleOf 54 rfl) hx0 ?_
    refine wr_iload_n (wg_da dt_X11_ruleOf 55 rfl) rfl ?_
    refine wr_iload_n (wg_da dt_X11_ruleOf 56 rfl) rfl ?_
    refine wr_iload_n (wg_da dt_X11_ruleOf 57 rfl) rfl ?_
    refine wr_bipush (10 : Int32) (wg_da dt_X11_ruleOf 58 rfl) (by decide) ?_
    refine wr_isub (wg_da dt_X11_ruleOf 59 rfl) ?_
    refine wr_callVi [.int x1, .int x2, .int (x3 - (10 : Int32))] [] (wg_da dt_X11_ruleOf 60 rfl) ⟨wq_5_51, wq_3_166, wq_3_167⟩ (wg_ty Sc_ok 11 4 3 hx0 rfl (by decide)).2 ⟨rfl, by decide⟩ wy_X1_countsOf (fun q hq => m_X1_countsOf l E (wg_r Sc x0 4) x1 x2 (x3 - (10 : Int32)) (wg_ty Sc_ok 11 4 3 hx0 rfl (by decide)).2 _ q hq) rfl rfl (Nat.le_of_ble_eq_true rfl) ⟨rfl, rfl, by decide, by decide⟩ h (fun v1 s2 h => ?_)
    refine wr_goto 143 (wg_da dt_X11_ruleOf 61 rfl) (by decide) ?_
    exact wr_iret (wg_da dt_X11_ruleOf 63 rfl) h
set_option maxRecDepth 20000 in
theorem g_X11_ruleOf_117 (l : Launch) (E : wg_E)  (x0 : Nat) (x1 : Int32) (x2 : Int32) (x3 : Int32) (σ : wg_M) (z : Int32 × wg_M) (hx0 : wg_t Sc x0 = 13) (h : f_X11_ruleOf_117  x0 x1 x2 x3 σ = some z) : wg_G l E Sc "WornWigs" cX11_ruleOf 7 (some .int) rm_X11_ruleOf (some z.1) z.2 117 [some (.ref x0), some (.int x1), some (.int x2), some (.int x3), none, none, none] [] σ := by
  refine wr_iconst (0 : Int32) (wg_da dt_X11_ruleOf 49 rfl) (by decide) ?_
  exact wr_wk [true, true, true, true, false, false, false] (g_X11_ruleOf_118 l E  x0 x1 x2 x3 (0 : Int32) σ _ hx0  h)
set_option maxRecDepth 20000 in
theorem g_X11_ruleOf_e (l : Launch) (E : wg_E)  (x0 : Nat) (x1 : Int32) (x2 : Int32) (x3 : Int32) (σ : wg_M) (z : Int32 × wg_M) (hx0 : wg_t Sc x0 = 13) (h : f_X11_ruleOf  x0 x1 x2 x3 σ = some z) : wg_G l E Sc "WornWigs" cX11_ruleOf 7 (some .int) rm_X11_ruleOf (some z.1) z.2 0 [some (.ref x0), some (.int x1), some (.int x2), some (.int x3), none, none, none] [] σ := by
  refine wr_aload_n (wg_da dt_X11_ruleOf 0 rfl) rfl ?_
  refine wr_getR wf_X11_12 (wg_da dt_X11_ruleOf 1 rfl) hx0 ?_
  refine wr_getR wf_X11_51 (wg_da dt_X11_ruleOf 2 rfl) (wg_ty Sc_ok 11 0 12 hx0 rfl (by decide)).2 ?_
  refine wr_getR wf_X11_64 (wg_da dt_X11_ruleOf 3 rfl) (wg_ty Sc_ok 10 0 2 (wg_ty Sc_ok 11 0 12 hx0 rfl (by decide)).2 rfl (by decide)).2 ?_
  refine wr_astore (wg_da dt_X11_ruleOf 4 rfl) (by decide) ?_
  refine wr_aload (wg_da dt_X11_ruleOf 5 rfl) rfl ?_
  refine wr_iload_n (wg_da dt_X11_ruleOf 6 rfl) rfl ?_
  refine wr_iload_n (wg_da dt_X11_ruleOf 7 rfl) rfl ?_
  refine wr_callVi [.int x1, .int x2] [] (wg_da dt_X11_ruleOf 8 rfl) ⟨wq_5_46, wq_5_47, wq_5_48⟩ (wg_ty Sc_ok 0 0 11 (wg_ty Sc_ok 10 0 2 (wg_ty Sc_ok 11 0 12 hx0 rfl (by decide)).2 rfl (by decide)).2 rfl (by decide)).2 ⟨rfl, by decide⟩ wy_X9_hasRule (fun q hq => m_X9_hasRule l E (wg_r Sc (wg_r Sc (wg_r Sc x0 0) 0) 0) x1 x2 (wg_ty Sc_ok 0 0 11 (wg_ty Sc_ok 10 0 2 (wg_ty Sc_ok 11 0 12 hx0 rfl (by decide)).2 rfl (by decide)).2 rfl (by decide)).2 _ q hq) rfl rfl (Nat.le_of_ble_eq_true rfl) ⟨rfl, rfl, by decide, by decide⟩ h (fun v1 s2 h => ?_)
  refine wr_if_ne 25 (wg_da dt_X11_ruleOf 9 rfl) (by decide) h (fun h => ?_) (fun h => ?_)
  · refine wr_bipush (-100 : Int32) (wg_da dt_X11_ruleOf 10 rfl) (by decide) ?_
    exact wr_iret (wg_da dt_X11_ruleOf 11 rfl) h
  · refine wr_iload_n (wg_da dt_X11_ruleOf 12 rfl) rfl ?_
    refine wr_bipush (8 : Int32) (wg_da dt_X11_ruleOf 13 rfl) (by decide) ?_
    refine wr_imul (wg_da dt_X11_ruleOf 14 rfl) ?_
    refine wr_iload_n (wg_da dt_X11_ruleOf 15 rfl) rfl ?_
    refine wr_iadd (wg_da dt_X11_ruleOf 16 rfl) ?_
    refine wr_let h (fun v3 h => ?_)
    refine wr_istore (wg_da dt_X11_ruleOf 17 rfl) (by decide) ?_
    refine wr_iload_n (wg_da dt_X11_ruleOf 18 rfl) rfl ?_
    refine wr_tsw [60, 69, 78] 87 (wg_da dt_X11_ruleOf 19 rfl) rfl rfl (by decide) (by decide) h (wg_all_c (fun h => ?_) (wg_all_c (fun h => ?_) (wg_all_c (fun h => ?_) (wg_all_n)))) (fun h => ?_)
    · refine wr_aload (wg_da dt_X11_ruleOf 20 rfl) rfl ?_
      refine wr_getR wf_X11_216 (wg_da dt_X11_ruleOf 21 rfl) (wg_ty Sc_ok 0 0 11 (wg_ty Sc_ok 10 0 2 (wg_ty Sc_ok 11 0 12 hx0 rfl (by decide)).2 rfl (by decide)).2 rfl (by decide)).2 ?_
      refine wr_iload (wg_da dt_X11_ruleOf 22 rfl) rfl ?_
      refine wr_iald (wg_da dt_X11_ruleOf 23 rfl) (wg_ty Sc_ok 9 5 0 (wg_ty Sc_ok 0 0 11 (wg_ty Sc_ok 10 0 2 (wg_ty Sc_ok 11 0 12 hx0 rfl (by decide)).2 rfl (by decide)).2 rfl (by decide)).2 rfl (by decide)).2 h (fun v4 h => ?_)
      exact wr_iret (wg_da dt_X11_ruleOf 24 rfl) h
    · refine wr_aload (wg_da dt_X11_ruleOf 25 rfl) rfl ?_
      refine wr_getR wf_X11_219 (wg_da dt_X11_ruleOf 26 rfl) (wg_ty Sc_ok 0 0 11 (wg_ty Sc_ok 10 0 2 (wg_ty Sc_ok 11 0 12 hx0 rfl (by decide)).2 rfl (by decide)).2 rfl (by decide)).2 ?_
      refine wr_iload (wg_da dt_X11_ruleOf 27 rfl) rfl ?_
      refine wr_iald (wg_da dt_X11_ruleOf 28 rfl) (wg_ty Sc_ok 9 6 0 (wg_ty Sc_ok 0 0 11 (wg_ty Sc_ok 10 0 2 (wg_ty Sc_ok 11 0 12 hx0 rfl (by decide)).2 rfl (by decide)).2 rfl (by decide)).2 rfl (by decide)).2 h (fun v5 h => ?_)
      exact wr_iret (wg_da dt_X11_ruleOf 29 rfl) h
    · refine wr_aload (wg_da dt_X11_ruleOf 30 rfl) rfl ?_
      refine wr_getR wf_X11_222 (wg_da dt_X11_ruleOf 31 rfl) (wg_ty Sc_ok 0 0 11 (wg_ty Sc_ok 10 0 2 (wg_ty Sc_ok 11 0 12 hx0 rfl (by decide)).2 rfl (by decide)).2 rfl (by decide)).2 ?_
      refine wr_iload (wg_da dt_X11_ruleOf 32 rfl) rfl ?_
      refine wr_iald (wg_da dt_X11_ruleOf 33 rfl) (wg_ty Sc_ok 9 7 0 (wg_ty Sc_ok 0 0 11 (wg_ty Sc_ok 10 0 2 (wg_ty Sc_ok 11 0 12 hx0 rfl (by decide)).2 rfl (by decide)).2 rfl (by decide)).2 rfl (by decide)).2 h (fun v6 h => ?_)
      exact wr_iret (wg_da dt_X11_ruleOf 34 rfl) h
    · refine wr_iload_n (wg_da dt_X11_ruleOf 35 rfl) rfl ?_
      refine wr_bipush (10 : Int32) (wg_da dt_X11_ruleOf 36 rfl) (by decide) ?_
      refine wr_icmp_lt 117 (wg_da dt_X11_ruleOf 37 rfl) (by decide) h (fun h => ?_) (fun h => ?_)
      · exact wr_wk [true, true, true, true, false, false, false] (g_X11_ruleOf_117 l E  x0 x1 x2 x3 s2 _ hx0  h)
      · refine wr_aload_n (wg_da dt_X11_ruleOf 38 rfl) rfl ?_
        refine wr_getR wf_X11_12 (wg_da dt_X11_ruleOf 39 rfl) hx0 ?_
        refine wr_getR wf_X11_51 (wg_da dt_X11_ruleOf 40 rfl) (wg_ty Sc_ok 11 0 12 hx0 rfl (by decide)).2 ?_
        refine wr_getR wf_X11_81 (wg_da dt_X11_ruleOf 41 rfl) (wg_ty Sc_ok 10 0 2 (wg_ty Sc_ok 11 0 12 hx0 rfl (by decide)).2 rfl (by decide)).2 ?_
        refine wr_iload_n (wg_da dt_X11_ruleOf 42 rfl) rfl ?_
        refine wr_bipush (10 : Int32) (wg_da dt_X11_ruleOf 43 rfl) (by decide) ?_
        refine wr_isub (wg_da dt_X11_ruleOf 44 rfl) ?_
        refine wr_callVi [.int (x3 - (10 : Int32))] [] (wg_da dt_X11_ruleOf 45 rfl) ⟨wq_3_104, wq_3_105, wq_3_106⟩ (wg_ty Sc_ok 0 1 4 (wg_ty Sc_ok 10 0 2 (wg_ty Sc_ok 11 0 12 hx0 rfl (by decide)).2 rfl (by decide)).2 rfl (by decide)).2 ⟨rfl, by decide⟩ wy_X2_has (fun q hq => m_X2_has l E (wg_r Sc (wg_r Sc (wg_r Sc x0 0) 0) 1) (x3 - (10 : Int32)) (wg_ty Sc_ok 0 1 4 (wg_ty Sc_ok 10 0 2 (wg_ty Sc_ok 11 0 12 hx0 rfl (by decide)).2 rfl (by decide)).2 rfl (by decide)).2 _ q hq) rfl rfl (Nat.le_of_ble_eq_true rfl) ⟨rfl, rfl, by decide, by decide⟩ h (fun v7 s8 h => ?_)
        refine wr_if_eq 117 (wg_da dt_X11_ruleOf 46 rfl) (by decide) h (fun h => ?_) (fun h => ?_)
        · exact wr_wk [true, true, true, true, false, false, false] (g_X11_ruleOf_117 l E  x0 x1 x2 x3 s8 _ hx0  h)
        · refine wr_iconst (1 : Int32) (wg_da dt_X11_ruleOf 47 rfl) (by decide) ?_
          refine wr_goto 118 (wg_da dt_X11_ruleOf 48 rfl) (by decide) ?_
          exact wr_wk [true, true, true, true, false, false, false] (g_X11_ruleOf_118 l E  x0 x1 x2 x3 (1 : Int32) s8 _ hx0  h)
theorem m_X11_ruleOf (l : Launch) (E : wg_E) (x0 : Nat) (x1 : Int32) (x2 : Int32) (x3 : Int32) (hx0 : wg_t Sc x0 = 13) (σ : wg_M) (q : Int32 × wg_M) (h : f_X11_ruleOf x0 x1 x2 x3 σ = some q) : wg_MG l E Sc yX11_ruleOf cX11_ruleOf 7 (some .int) rm_X11_ruleOf [.ref x0, .int x1, .int x2, .int x3] σ (some q.1) q.2 :=
  wg_met [.ref x0, .int x1, .int x2, .int x3] (plainFor_of_name (by decide)) (Nat.le_of_ble_eq_true rfl) (g_X11_ruleOf_e l E x0 x1 x2 x3 σ q hx0 h)
abbrev rm_X11_who : Room := { frames := 4, cells := 0, slots := 0, locals := 93 }
def tb_X11_who : List (Nat × Instr × Nat) := [(0, .aload_n 0, 1), (1, .getfield 12, 3), (4, .getfield 51, 3), (7, .getfield 81, 3), (10, .astore_n 3, 1), (11, .aload_n 3, 1), (12, .iload_n 1, 1), (13, .invokevirtual 107, 3), (16, .ifCond .ne 6, 3), (19, .bipush (-100), 2), (21, .ireturn, 1), (22, .iload_n 2, 1), (23, .tableswitch 81 0 5 #[37, 44, 51, 58, 65, 72], 37), (60, .aload_n 3, 1), (61, .getfield 108, 3), (64, .iload_n 1, 1), (65, .iaload, 1), (66, .ireturn, 1), (67, .aload_n 3, 1), (68, .getfield 115, 3), (71, .iload_n 1, 1), (72, .iaload, 1), (73, .ireturn, 1), (74, .aload_n 3, 1), (75, .getfield 229, 3), (78, .iload_n 1, 1), (79, .iaload, 1), (80, .ireturn, 1), (81, .aload_n 3, 1), (82, .getfield 232, 3), (85, .iload_n 1, 1), (86, .iaload, 1), (87, .ireturn, 1), (88, .aload_n 3, 1), (89, .getfield 235, 3), (92, .iload_n 1, 1), (93, .iaload, 1), (94, .ireturn, 1), (95, .aload_n 0, 1), (96, .getfield 38, 3), (99, .iload_n 1, 1), (100, .invokevirtual 238, 3), (103, .ireturn, 1), (104, .bipush (-100), 2), (106, .ireturn, 1)]
theorem dt_X11_who : wg_dc cX11_who tb_X11_who := by unfold wg_dc; decide +kernel
def f_X11_who  (x0 : Nat) (x1 : Int32) (x2 : Int32) (σ : wg_M) : Option (Int32 × wg_M) := wg_bd (f_X2_has (wg_r Sc (wg_r Sc (wg_r Sc x0 0) 0) 1) x1 σ) (fun v1 s2 => if v1 = 0 then (some ((-100 : Int32), s2)) else (wg_sw x2 (0) [wg_ga (wg_n Sc (wg_r Sc (wg_r Sc (wg_r Sc (wg_r Sc x0 0) 0) 1) 0)) (s2 (wg_r Sc (wg_r Sc (wg_r Sc (wg_r Sc x0 0) 0) 1) 0)) x1 (fun v3 => some (v3, s2)), wg_ga (wg_n Sc (wg_r Sc (wg_r Sc (wg_r Sc (wg_r Sc x0 0) 0) 1) 1)) (s2 (wg_r Sc (wg_r Sc (wg_r Sc (wg_r Sc x0 0) 0) 1) 1)) x1 (fun v4 => some (v4, s2)), wg_ga (wg_n Sc (wg_r Sc (wg_r Sc (wg_r Sc (wg_r Sc x0 0) 0) 1) 2)) (s2 (wg_r Sc (wg_r Sc (wg_r Sc (wg_r Sc x0 0) 0) 1) 2)) x1 (fun v5 => some (v5, s2)), wg_ga (wg_n Sc (wg_r Sc (wg_r Sc (wg_r Sc (wg_r Sc x0 0) 0) 1) 3)) (s2 (wg_r Sc (wg_r Sc (wg_r Sc (wg_r Sc x0 0) 0) 1) 3)) x1 (fun v6 => some (v6, s2)), wg_ga (wg_n Sc (wg_r Sc (wg_r Sc (wg_r Sc (wg_r Sc x0 0) 0) 1) 4)) (s2 (wg_r Sc (wg_r Sc (wg_r Sc (wg_r Sc x0 0) 0) 1) 4)) x1 (fun v7 => some (v7, s2)), wg_bd (f_X1_diesOf (wg_r Sc x0 4) x1 s2) (fun v8 s9 => some (v8, s9))] (some ((-100 : Int32), s2))))
set_option maxRecDepth 20000 in
theorem g_X11_who_e (l : Launch) (E : wg_E)  (x0 : Nat) (x1 : Int32) (x2 : Int32) (σ : wg_M) (z : Int32 × wg_M) (hx0 : wg_t Sc x0 = 13) (h : f_X11_who  x0 x1 x2 σ = some z) : wg_G l E Sc "WornWigs" cX11_who 4 (some .int) rm_X11_who (some z.1) z.2 0 [some (.ref x0), some (.int x1), some (.int x2), none] [] σ := by
  refine wr_aload_n (wg_da dt_X11_who 0 rfl) rfl ?_
  refine wr_getR wf_X11_12 (wg_da dt_X11_who 1 rfl) hx0 ?_
  refine wr_getR wf_X11_51 (wg_da dt_X11_who 2 rfl) (wg_ty Sc_ok 11 0 12 hx0 rfl (by decide)).2 ?_
  refine wr_getR wf_X11_81 (wg_da dt_X11_who 3 rfl) (wg_ty Sc_ok 10 0 2 (wg_ty Sc_ok 11 0 12 hx0 rfl (by decide)).2 rfl (by decide)).2 ?_
  refine wr_astore_n (wg_da dt_X11_who 4 rfl) (by decide) ?_
  refine wr_aload_n (wg_da dt_X11_who 5 rfl) rfl ?_
  refine wr_iload_n (wg_da dt_X11_who 6 rfl) rfl ?_
  refine wr_callVi [.int x1] [] (wg_da dt_X11_who 7 rfl) ⟨wq_3_104, wq_3_105, wq_3_106⟩ (wg_ty Sc_ok 0 1 4 (wg_ty Sc_ok 10 0 2 (wg_ty Sc_ok 11 0 12 hx0 rfl (by decide)).2 rfl (by decide)).2 rfl (by decide)).2 ⟨rfl, by decide⟩ wy_X2_has (fun q hq => m_X2_has l E (wg_r Sc (wg_r Sc (wg_r Sc x0 0) 0) 1) x1 (wg_ty Sc_ok 0 1 4 (wg_ty Sc_ok 10 0 2 (wg_ty Sc_ok 11 0 12 hx0 rfl (by decide)).2 rfl (by decide)).2 rfl (by decide)).2 _ q hq) rfl rfl (Nat.le_of_ble_eq_true rfl) ⟨rfl, rfl, by decide, by decide⟩ h (fun v1 s2 h => ?_)
  refine wr_if_ne 22 (wg_da dt_X11_who 8 rfl) (by decide) h (fun h => ?_) (fun h => ?_)
  · refine wr_bipush (-100 : Int32) (wg_da dt_X11_who 9 rfl) (by decide) ?_
    exact wr_iret (wg_da dt_X11_who 10 rfl) h
  · refine wr_iload_n (wg_da dt_X11_who 11 rfl) rfl ?_
    refine wr_tsw [60, 67, 74, 81, 88, 95] 104 (wg_da dt_X11_who 12 rfl) rfl rfl (by decide) (by decide) h (wg_all_c (fun h => ?_) (wg_all_c (fun h => ?_) (wg_all_c (fun h => ?_) (wg_all_c (fun h => ?_) (wg_all_c (fun h => ?_) (wg_all_c (fun h => ?_) (wg_all_n))))))) (fun h => ?_)
    · refine wr_aload_n (wg_da dt_X11_who 13 rfl) rfl ?_
      refine wr_getR wf_X11_108 (wg_da dt_X11_who 14 rfl) (wg_ty Sc_ok 0 1 4 (wg_ty Sc_ok 10 0 2 (wg_ty Sc_ok 11 0 12 hx0 rfl (by decide)).2 rfl (by decide)).2 rfl (by decide)).2 ?_
      refine wr_iload_n (wg_da dt_X11_who 15 rfl) rfl ?_
      refine wr_iald (wg_da dt_X11_who 16 rfl) (wg_ty Sc_ok 2 0 0 (wg_ty Sc_ok 0 1 4 (wg_ty Sc_ok 10 0 2 (wg_ty Sc_ok 11 0 12 hx0 rfl (by decide)).2 rfl (by decide)).2 rfl (by decide)).2 rfl (by decide)).2 h (fun v3 h => ?_)
      exact wr_iret (wg_da dt_X11_who 17 rfl) h
    · refine wr_aload_n (wg_da dt_X11_who 18 rfl) rfl ?_
      refine wr_getR wf_X11_115 (wg_da dt_X11_who 19 rfl) (wg_ty Sc_ok 0 1 4 (wg_ty Sc_ok 10 0 2 (wg_ty Sc_ok 11 0 12 hx0 rfl (by decide)).2 rfl (by decide)).2 rfl (by decide)).2 ?_
      refine wr_iload_n (wg_da dt_X11_who 20 rfl) rfl ?_
      refine wr_iald (wg_da dt_X11_who 21 rfl) (wg_ty Sc_ok 2 1 0 (wg_ty Sc_ok 0 1 4 (wg_ty Sc_ok 10 0 2 (wg_ty Sc_ok 11 0 12 hx0 rfl (by decide)).2 rfl (by decide)).2 rfl (by decide)).2 rfl (by decide)).2 h (fun v4 h => ?_)
      exact wr_iret (wg_da dt_X11_who 22 rfl) h
    · refine wr_aload_n (wg_da dt_X11_who 23 rfl) rfl ?_
      refine wr_getR wf_X11_229 (wg_da dt_X11_who 24 rfl) (wg_ty Sc_ok 0 1 4 (wg_ty Sc_ok 10 0 2 (wg_ty Sc_ok 11 0 12 hx0 rfl (by decide)).2 rfl (by decide)).2 rfl (by decide)).2 ?_
      refine wr_iload_n (wg_da dt_X11_who 25 rfl) rfl ?_
      refine wr_iald (wg_da dt_X11_who 26 rfl) (wg_ty Sc_ok 2 2 0 (wg_ty Sc_ok 0 1 4 (wg_ty Sc_ok 10 0 2 (wg_ty Sc_ok 11 0 12 hx0 rfl (by decide)).2 rfl (by decide)).2 rfl (by decide)).2 rfl (by decide)).2 h (fun v5 h => ?_)
      exact wr_iret (wg_da dt_X11_who 27 rfl) h
    · refine wr_aload_n (wg_da dt_X11_who 28 rfl) rfl ?_
      refine wr_getR wf_X11_232 (wg_da dt_X11_who 29 rfl) (wg_ty Sc_ok 0 1 4 (wg_ty Sc_ok 10 0 2 (wg_ty Sc_ok 11 0 12 hx0 rfl (by decide)).2 rfl (by decide)).2 rfl (by decide)).2 ?_
      refine wr_iload_n (wg_da dt_X11_who 30 rfl) rfl ?_
      refine wr_iald (wg_da dt_X11_who 31 rfl) (wg_ty Sc_ok 2 3 0 (wg_ty Sc_ok 0 1 4 (wg_ty Sc_ok 10 0 2 (wg_ty Sc_ok 11 0 12 hx0 rfl (by decide)).2 rfl (by decide)).2 rfl (by decide)).2 rfl (by decide)).2 h (fun v6 h => ?_)
      exact wr_iret (wg_da dt_X11_who 32 rfl) h
    · refine wr_aload_n (wg_da dt_X11_who 33 rfl) rfl ?_
      refine wr_getR wf_X11_235 (wg_da dt_X11_who 34 rfl) (wg_ty Sc_ok 0 1 4 (wg_ty Sc_ok 10 0 2 (wg_ty Sc_ok 11 0 12 hx0 rfl (by decide)).2 rfl (by decide)).2 rfl (by decide)).2 ?_
      refine wr_iload_n (wg_da dt_X11_who 35 rfl) rfl ?_
      refine wr_iald (wg_da dt_X11_who 36 rfl) (wg_ty Sc_ok 2 4 0 (wg_ty Sc_ok 0 1 4 (wg_ty Sc_ok 10 0 2 (wg_ty Sc_ok 11 0 12 hx0 rfl (by decide)).2 rfl (by decide)).2 rfl (by decide)).2 rfl (by decide)).2 h (fun v7 h => ?_)
      exact wr_iret (wg_da dt_X11_who 37 rfl) h
    · refine wr_aload_n (wg_da dt_X11_who 38 rfl) rfl ?_
      refine wr_getR wf_X11_38 (wg_da dt_X11_who 39 rfl) hx0 ?_
      refine wr_iload_n (wg_da dt_X11_who 40 rfl) rfl ?_
      refine wr_callVi [.int x1] [] (wg_da dt_X11_who 41 rfl) ⟨wq_5_56, wq_4_39, wq_4_40⟩ (wg_ty Sc_ok 11 4 3 hx0 rfl (by decide)).2 ⟨rfl, by decide⟩ wy_X1_diesOf (fun q hq => m_X1_diesOf l E (wg_r Sc x0 4) x1 (wg_ty Sc_ok 11 4 3 hx0 rfl (by decide)).2 _ q hq) rfl rfl (Nat.le_of_ble_eq_true rfl) ⟨rfl, rfl, by decide, by decide⟩ h (fun v8 s9 h => ?_)
      exact wr_iret (wg_da dt_X11_who 42 rfl) h
    · refine wr_bipush (-100 : Int32) (wg_da dt_X11_who 43 rfl) (by decide) ?_
      exact wr_iret (wg_da dt_X11_who 44 rfl) h
theorem m_X11_who (l : Launch) (E : wg_E) (x0 : Nat) (x1 : Int32) (x2 : Int32) (hx0 : wg_t Sc x0 = 13) (σ : wg_M) (q : Int32 × wg_M) (h : f_X11_who x0 x1 x2 σ = some q) : wg_MG l E Sc yX11_who cX11_who 4 (some .int) rm_X11_who [.ref x0, .int x1, .int x2] σ (some q.1) q.2 :=
  wg_met [.ref x0, .int x1, .int x2] (plainFor_of_name (by decide)) (Nat.le_of_ble_eq_true rfl) (g_X11_who_e l E x0 x1 x2 σ q hx0 h)
abbrev rm_X11_trialOf : Room := { frames := 1, cells := 0, slots := 0, locals := 21 }
def tb_X11_trialOf : List (Nat × Instr × Nat) := [(0, .aload_n 0, 1), (1, .getfield 12, 3), (4, .getfield 51, 3), (7, .astore_n 3, 1), (8, .aload_n 3, 1), (9, .iload_n 1, 1), (10, .invokevirtual 121, 3), (13, .ifCond .ne 6, 3), (16, .ldc 241, 2), (18, .ireturn, 1), (19, .iload_n 2, 1), (20, .tableswitch 60 0 3 #[32, 39, 46, 53], 32), (52, .aload_n 3, 1), (53, .getfield 242, 3), (56, .iload_n 1, 1), (57, .iaload, 1), (58, .ireturn, 1), (59, .aload_n 3, 1), (60, .getfield 124, 3), (63, .iload_n 1, 1), (64, .iaload, 1), (65, .ireturn, 1), (66, .aload_n 3, 1), (67, .getfield 139, 3), (70, .iload_n 1, 1), (71, .iaload, 1), (72, .ireturn, 1), (73, .aload_n 3, 1), (74, .getfield 243, 3), (77, .iload_n 1, 1), (78, .iaload, 1), (79, .ireturn, 1), (80, .ldc 241, 2), (82, .ireturn, 1)]
theorem dt_X11_trialOf : wg_dc cX11_trialOf tb_X11_trialOf := by unfold wg_dc; decide +kernel
def f_X11_trialOf  (x0 : Nat) (x1 : Int32) (x2 : Int32) (σ : wg_M) : Option (Int32 × wg_M) := wg_bd (f_X0_hasCase (wg_r Sc (wg_r Sc x0 0) 0) x1 σ) (fun v1 s2 => if v1 = 0 then (some ((-100000 : Int32), s2)) else (wg_sw x2 (0) [wg_ga (wg_n Sc (wg_r Sc (wg_r Sc (wg_r Sc x0 0) 0) 2)) (s2 (wg_r Sc (wg_r Sc (wg_r Sc x0 0) 0) 2)) x1 (fun v3 => some (v3, s2)), wg_ga (wg_n Sc (wg_r Sc (wg_r Sc (wg_r Sc x0 0) 0) 3)) (s2 (wg_r Sc (wg_r Sc (wg_r Sc x0 0) 0) 3)) x1 (fun v4 => some (v4, s2)), wg_ga (wg_n Sc (wg_r Sc (wg_r Sc (wg_r Sc x0 0) 0) 4)) (s2 (wg_r Sc (wg_r Sc (wg_r Sc x0 0) 0) 4)) x1 (fun v5 => some (v5, s2)), wg_ga (wg_n Sc (wg_r Sc (wg_r Sc (wg_r Sc x0 0) 0) 5)) (s2 (wg_r Sc (wg_r Sc (wg_r Sc x0 0) 0) 5)) x1 (fun v6 => some (v6, s2))] (some ((-100000 : Int32), s2))))
set_option maxRecDepth 20000 in
theorem g_X11_trialOf_e (l : Launch) (E : wg_E)  (x0 : Nat) (x1 : Int32) (x2 : Int32) (σ : wg_M) (z : Int32 × wg_M) (hx0 : wg_t Sc x0 = 13) (h : f_X11_trialOf  x0 x1 x2 σ = some z) : wg_G l E Sc "WornWigs" cX11_trialOf 4 (some .int) rm_X11_trialOf (some z.1) z.2 0 [some (.ref x0), some (.int x1), some (.int x2), none] [] σ := by
  refine wr_aload_n (wg_da dt_X11_trialOf 0 rfl) rfl ?_
  refine wr_getR wf_X11_12 (wg_da dt_X11_trialOf 1 rfl) hx0 ?_
  refine wr_getR wf_X11_51 (wg_da dt_X11_trialOf 2 rfl) (wg_ty Sc_ok 11 0 12 hx0 rfl (by decide)).2 ?_
  refine wr_astore_n (wg_da dt_X11_trialOf 3 rfl) (by decide) ?_
  refine wr_aload_n (wg_da dt_X11_trialOf 4 rfl) rfl ?_
  refine wr_iload_n (wg_da dt_X11_trialOf 5 rfl) rfl ?_
  refine wr_callVi [.int x1] [] (wg_da dt_X11_trialOf 6 rfl) ⟨wq_3_112, wq_3_113, wq_3_114⟩ (wg_ty Sc_ok 10 0 2 (wg_ty Sc_ok 11 0 12 hx0 rfl (by decide)).2 rfl (by decide)).2 ⟨rfl, by decide⟩ wy_X0_hasCase (fun q hq => m_X0_hasCase l E (wg_r Sc (wg_r Sc x0 0) 0) x1 (wg_ty Sc_ok 10 0 2 (wg_ty Sc_ok 11 0 12 hx0 rfl (by decide)).2 rfl (by decide)).2 _ q hq) rfl rfl (Nat.le_of_ble_eq_true rfl) ⟨rfl, rfl, by decide, by decide⟩ h (fun v1 s2 h => ?_)
  refine wr_if_ne 19 (wg_da dt_X11_trialOf 7 rfl) (by decide) h (fun h => ?_) (fun h => ?_)
  · refine wr_ldc (v := (-100000 : Int32)) (wg_da dt_X11_trialOf 8 rfl) wq_5_61 ?_
    exact wr_iret (wg_da dt_X11_trialOf 9 rfl) h
  · refine wr_iload_n (wg_da dt_X11_trialOf 10 rfl) rfl ?_
    refine wr_tsw [52, 59, 66, 73] 80 (wg_da dt_X11_trialOf 11 rfl) rfl rfl (by decide) (by decide) h (wg_all_c (fun h => ?_) (wg_all_c (fun h => ?_) (wg_all_c (fun h => ?_) (wg_all_c (fun h => ?_) (wg_all_n))))) (fun h => ?_)
    · refine wr_aload_n (wg_da dt_X11_trialOf 12 rfl) rfl ?_
      refine wr_getR wf_X11_242 (wg_da dt_X11_trialOf 13 rfl) (wg_ty Sc_ok 10 0 2 (wg_ty Sc_ok 11 0 12 hx0 rfl (by decide)).2 rfl (by decide)).2 ?_
      refine wr_iload_n (wg_da dt_X11_trialOf 14 rfl) rfl ?_
      refine wr_iald (wg_da dt_X11_trialOf 15 rfl) (wg_ty Sc_ok 0 2 0 (wg_ty Sc_ok 10 0 2 (wg_ty Sc_ok 11 0 12 hx0 rfl (by decide)).2 rfl (by decide)).2 rfl (by decide)).2 h (fun v3 h => ?_)
      exact wr_iret (wg_da dt_X11_trialOf 16 rfl) h
    · refine wr_aload_n (wg_da dt_X11_trialOf 17 rfl) rfl ?_
      refine wr_getR wf_X11_124 (wg_da dt_X11_trialOf 18 rfl) (wg_ty Sc_ok 10 0 2 (wg_ty Sc_ok 11 0 12 hx0 rfl (by decide)).2 rfl (by decide)).2 ?_
      refine wr_iload_n (wg_da dt_X11_trialOf 19 rfl) rfl ?_
      refine wr_iald (wg_da dt_X11_trialOf 20 rfl) (wg_ty Sc_ok 0 3 0 (wg_ty Sc_ok 10 0 2 (wg_ty Sc_ok 11 0 12 hx0 rfl (by decide)).2 rfl (by decide)).2 rfl (by decide)).2 h (fun v4 h => ?_)
      exact wr_iret (wg_da dt_X11_trialOf 21 rfl) h
    · refine wr_aload_n (wg_da dt_X11_trialOf 22 rfl) rfl ?_
      refine wr_getR wf_X11_139 (wg_da dt_X11_trialOf 23 rfl) (wg_ty Sc_ok 10 0 2 (wg_ty Sc_ok 11 0 12 hx0 rfl (by decide)).2 rfl (by decide)).2 ?_
      refine wr_iload_n (wg_da dt_X11_trialOf 24 rfl) rfl ?_
      refine wr_iald (wg_da dt_X11_trialOf 25 rfl) (wg_ty Sc_ok 0 4 0 (wg_ty Sc_ok 10 0 2 (wg_ty Sc_ok 11 0 12 hx0 rfl (by decide)).2 rfl (by decide)).2 rfl (by decide)).2 h (fun v5 h => ?_)
      exact wr_iret (wg_da dt_X11_trialOf 26 rfl) h
    · refine wr_aload_n (wg_da dt_X11_trialOf 27 rfl) rfl ?_
      refine wr_getR wf_X11_243 (wg_da dt_X11_trialOf 28 rfl) (wg_ty Sc_ok 10 0 2 (wg_ty Sc_ok 11 0 12 hx0 rfl (by decide)).2 rfl (by decide)).2 ?_
      refine wr_iload_n (wg_da dt_X11_trialOf 29 rfl) rfl ?_
      refine wr_iald (wg_da dt_X11_trialOf 30 rfl) (wg_ty Sc_ok 0 5 0 (wg_ty Sc_ok 10 0 2 (wg_ty Sc_ok 11 0 12 hx0 rfl (by decide)).2 rfl (by decide)).2 rfl (by decide)).2 h (fun v6 h => ?_)
      exact wr_iret (wg_da dt_X11_trialOf 31 rfl) h
    · refine wr_ldc (v := (-100000 : Int32)) (wg_da dt_X11_trialOf 32 rfl) wq_5_61 ?_
      exact wr_iret (wg_da dt_X11_trialOf 33 rfl) h
theorem m_X11_trialOf (l : Launch) (E : wg_E) (x0 : Nat) (x1 : Int32) (x2 : Int32) (hx0 : wg_t Sc x0 = 13) (σ : wg_M) (q : Int32 × wg_M) (h : f_X11_trialOf x0 x1 x2 σ = some q) : wg_MG l E Sc yX11_trialOf cX11_trialOf 4 (some .int) rm_X11_trialOf [.ref x0, .int x1, .int x2] σ (some q.1) q.2 :=
  wg_met [.ref x0, .int x1, .int x2] (plainFor_of_name (by decide)) (Nat.le_of_ble_eq_true rfl) (g_X11_trialOf_e l E x0 x1 x2 σ q hx0 h)
abbrev rm_X11_book : Room := { frames := 1, cells := 0, slots := 0, locals := 22 }
def tb_X11_book : List (Nat × Instr × Nat) := [(0, .iload_n 1, 1), (1, .iconst 0, 1), (2, .aload_n 0, 1), (3, .getfield 12, 3), (6, .getfield 51, 3), (9, .getfield 246, 3), (12, .iconst 1, 1), (13, .isub, 1), (14, .invokestatic 73, 3), (17, .ifCond .ne 7, 3), (20, .sipush (-10000), 3), (23, .ireturn, 1), (24, .iload_n 2, 1), (25, .tableswitch 83 0 3 #[31, 44, 57, 70], 31), (56, .aload_n 0, 1), (57, .getfield 12, 3), (60, .getfield 249, 3), (63, .getfield 252, 3), (66, .iload_n 1, 1), (67, .iaload, 1), (68, .ireturn, 1), (69, .aload_n 0, 1), (70, .getfield 12, 3), (73, .getfield 249, 3), (76, .getfield 254, 3), (79, .iload_n 1, 1), (80, .iaload, 1), (81, .ireturn, 1), (82, .aload_n 0, 1), (83, .getfield 12, 3), (86, .getfield 249, 3), (89, .getfield 257, 3), (92, .iload_n 1, 1), (93, .iaload, 1), (94, .ireturn, 1), (95, .aload_n 0, 1), (96, .getfield 12, 3), (99, .getfield 249, 3), (102, .getfield 260, 3), (105, .iload_n 1, 1), (106, .iaload, 1), (107, .ireturn, 1), (108, .sipush (-10000), 3), (111, .ireturn, 1)]
theorem dt_X11_book : wg_dc cX11_book tb_X11_book := by unfold wg_dc; decide +kernel
def f_X11_book  (x0 : Nat) (x1 : Int32) (x2 : Int32) (σ : wg_M) : Option (Int32 × wg_M) := wg_bd (f_X11_within x1 (0 : Int32) ((σ (wg_r Sc (wg_r Sc x0 0) 0) 9) - (1 : Int32)) σ) (fun v1 s2 => if v1 = 0 then (some ((-10000 : Int32), s2)) else (wg_sw x2 (0) [wg_ga (wg_n Sc (wg_r Sc (wg_r Sc (wg_r Sc x0 0) 1) 0)) (s2 (wg_r Sc (wg_r Sc (wg_r Sc x0 0) 1) 0)) x1 (fun v3 => some (v3, s2)), wg_ga (wg_n Sc (wg_r Sc (wg_r Sc (wg_r Sc x0 0) 1) 1)) (s2 (wg_r Sc (wg_r Sc (wg_r Sc x0 0) 1) 1)) x1 (fun v4 => some (v4, s2)), wg_ga (wg_n Sc (wg_r Sc (wg_r Sc (wg_r Sc x0 0) 1) 2)) (s2 (wg_r Sc (wg_r Sc (wg_r Sc x0 0) 1) 2)) x1 (fun v5 => some (v5, s2)), wg_ga (wg_n Sc (wg_r Sc (wg_r Sc (wg_r Sc x0 0) 1) 3)) (s2 (wg_r Sc (wg_r Sc (wg_r Sc x0 0) 1) 3)) x1 (fun v6 => some (v6, s2))] (some ((-10000 : Int32), s2))))
set_option maxRecDepth 20000 in
theorem g_X11_book_e (l : Launch) (E : wg_E)  (x0 : Nat) (x1 : Int32) (x2 : Int32) (σ : wg_M) (z : Int32 × wg_M) (hx0 : wg_t Sc x0 = 13) (h : f_X11_book  x0 x1 x2 σ = some z) : wg_G l E Sc "WornWigs" cX11_book 3 (some .int) rm_X11_book (some z.1) z.2 0 [some (.ref x0), some (.int x1), some (.int x2)] [] σ := by
  refine wr_iload_n (wg_da dt_X11_book 0 rfl) rfl ?_
  refine wr_iconst (0 : Int32) (wg_da dt_X11_book 1 rfl) (by decide) ?_
  refine wr_aload_n (wg_da dt_X11_book 2 rfl) rfl ?_
  refine wr_getR wf_X11_12 (wg_da dt_X11_book 3 rfl) hx0 ?_
  refine wr_getR wf_X11_51 (wg_da dt_X11_book 4 rfl) (wg_ty Sc_ok 11 0 12 hx0 rfl (by decide)).2 ?_
  refine wr_getI wf_X11_246 (wg_da dt_X11_book 5 rfl) (wg_ty Sc_ok 10 0 2 (wg_ty Sc_ok 11 0 12 hx0 rfl (by decide)).2 rfl (by decide)).2 ?_
  refine wr_iconst (1 : Int32) (wg_da dt_X11_book 6 rfl) (by decide) ?_
  refine wr_isub (wg_da dt_X11_book 7 rfl) ?_
  refine wr_callSi [.int x1, .int (0 : Int32), .int ((σ (wg_r Sc (wg_r Sc x0 0) 0) 9) - (1 : Int32))] [] (wg_da dt_X11_book 8 rfl) ⟨wq_3_48, wq_3_49⟩ wy_X11_within (fun q hq => m_X11_within l E x1 (0 : Int32) ((σ (wg_r Sc (wg_r Sc x0 0) 0) 9) - (1 : Int32))  _ q hq) rfl rfl (Nat.le_of_ble_eq_true rfl) ⟨rfl, rfl, by decide, by decide⟩ h (fun v1 s2 h => ?_)
  refine wr_if_ne 24 (wg_da dt_X11_book 9 rfl) (by decide) h (fun h => ?_) (fun h => ?_)
  · refine wr_sipush (-10000 : Int32) (wg_da dt_X11_book 10 rfl) (by decide) ?_
    exact wr_iret (wg_da dt_X11_book 11 rfl) h
  · refine wr_iload_n (wg_da dt_X11_book 12 rfl) rfl ?_
    refine wr_tsw [56, 69, 82, 95] 108 (wg_da dt_X11_book 13 rfl) rfl rfl (by decide) (by decide) h (wg_all_c (fun h => ?_) (wg_all_c (fun h => ?_) (wg_all_c (fun h => ?_) (wg_all_c (fun h => ?_) (wg_all_n))))) (fun h => ?_)
    · refine wr_aload_n (wg_da dt_X11_book 14 rfl) rfl ?_
      refine wr_getR wf_X11_12 (wg_da dt_X11_book 15 rfl) hx0 ?_
      refine wr_getR wf_X11_249 (wg_da dt_X11_book 16 rfl) (wg_ty Sc_ok 11 0 12 hx0 rfl (by decide)).2 ?_
      refine wr_getR wf_X11_252 (wg_da dt_X11_book 17 rfl) (wg_ty Sc_ok 10 1 6 (wg_ty Sc_ok 11 0 12 hx0 rfl (by decide)).2 rfl (by decide)).2 ?_
      refine wr_iload_n (wg_da dt_X11_book 18 rfl) rfl ?_
      refine wr_iald (wg_da dt_X11_book 19 rfl) (wg_ty Sc_ok 4 0 0 (wg_ty Sc_ok 10 1 6 (wg_ty Sc_ok 11 0 12 hx0 rfl (by decide)).2 rfl (by decide)).2 rfl (by decide)).2 h (fun v3 h => ?_)
      exact wr_iret (wg_da dt_X11_book 20 rfl) h
    · refine wr_aload_n (wg_da dt_X11_book 21 rfl) rfl ?_
      refine wr_getR wf_X11_12 (wg_da dt_X11_book 22 rfl) hx0 ?_
      refine wr_getR wf_X11_249 (wg_da dt_X11_book 23 rfl) (wg_ty Sc_ok 11 0 12 hx0 rfl (by decide)).2 ?_
      refine wr_getR wf_X11_254 (wg_da dt_X11_book 24 rfl) (wg_ty Sc_ok 10 1 6 (wg_ty Sc_ok 11 0 12 hx0 rfl (by decide)).2 rfl (by decide)).2 ?_
      refine wr_iload_n (wg_da dt_X11_book 25 rfl) rfl ?_
      refine wr_iald (wg_da dt_X11_book 26 rfl) (wg_ty Sc_ok 4 1 0 (wg_ty Sc_ok 10 1 6 (wg_ty Sc_ok 11 0 12 hx0 rfl (by decide)).2 rfl (by decide)).2 rfl (by decide)).2 h (fun v4 h => ?_)
      exact wr_iret (wg_da dt_X11_book 27 rfl) h
    · refine wr_aload_n (wg_da dt_X11_book 28 rfl) rfl ?_
      refine wr_getR wf_X11_12 (wg_da dt_X11_book 29 rfl) hx0 ?_
      refine wr_getR wf_X11_249 (wg_da dt_X11_book 30 rfl) (wg_ty Sc_ok 11 0 12 hx0 rfl (by decide)).2 ?_
      refine wr_getR wf_X11_257 (wg_da dt_X11_book 31 rfl) (wg_ty Sc_ok 10 1 6 (wg_ty Sc_ok 11 0 12 hx0 rfl (by decide)).2 rfl (by decide)).2 ?_
      refine wr_iload_n (wg_da dt_X11_book 32 rfl) rfl ?_
      refine wr_iald (wg_da dt_X11_book 33 rfl) (wg_ty Sc_ok 4 2 0 (wg_ty Sc_ok 10 1 6 (wg_ty Sc_ok 11 0 12 hx0 rfl (by decide)).2 rfl (by decide)).2 rfl (by decide)).2 h (fun v5 h => ?_)
      exact wr_iret (wg_da dt_X11_book 34 rfl) h
    · refine wr_aload_n (wg_da dt_X11_book 35 rfl) rfl ?_
      refine wr_getR wf_X11_12 (wg_da dt_X11_book 36 rfl) hx0 ?_
      refine wr_getR wf_X11_249 (wg_da dt_X11_book 37 rfl) (wg_ty Sc_ok 11 0 12 hx0 rfl (by decide)).2 ?_
      refine wr_getR wf_X11_260 (wg_da dt_X11_book 38 rfl) (wg_ty Sc_ok 10 1 6 (wg_ty Sc_ok 11 0 12 hx0 rfl (by decide)).2 rfl (by decide)).2 ?_
      refine wr_iload_n (wg_da dt_X11_book 39 rfl) rfl ?_
      refine wr_iald (wg_da dt_X11_book 40 rfl) (wg_ty Sc_ok 4 3 0 (wg_ty Sc_ok 10 1 6 (wg_ty Sc_ok 11 0 12 hx0 rfl (by decide)).2 rfl (by decide)).2 rfl (by decide)).2 h (fun v6 h => ?_)
      exact wr_iret (wg_da dt_X11_book 41 rfl) h
    · refine wr_sipush (-10000 : Int32) (wg_da dt_X11_book 42 rfl) (by decide) ?_
      exact wr_iret (wg_da dt_X11_book 43 rfl) h
theorem m_X11_book (l : Launch) (E : wg_E) (x0 : Nat) (x1 : Int32) (x2 : Int32) (hx0 : wg_t Sc x0 = 13) (σ : wg_M) (q : Int32 × wg_M) (h : f_X11_book x0 x1 x2 σ = some q) : wg_MG l E Sc yX11_book cX11_book 3 (some .int) rm_X11_book [.ref x0, .int x1, .int x2] σ (some q.1) q.2 :=
  wg_met [.ref x0, .int x1, .int x2] (plainFor_of_name (by decide)) (Nat.le_of_ble_eq_true rfl) (g_X11_book_e l E x0 x1 x2 σ q hx0 h)
abbrev rm_X11_goes : Room := { frames := 7, cells := 0, slots := 0, locals := 171 }
def tb_X11_goes : List (Nat × Instr × Nat) := [(0, .iload_n 1, 1), (1, .iconst 1, 1), (2, .bipush 60, 2), (4, .invokestatic 73, 3), (7, .ifCond .eq 12, 3), (10, .iload_n 2, 1), (11, .iconst 0, 1), (12, .iconst 3, 1), (13, .invokestatic 73, 3), (16, .ifCond .ne 5, 3), (19, .iconst (-1), 1), (20, .ireturn, 1), (21, .aload_n 0, 1), (22, .getfield 38, 3), (25, .invokevirtual 263, 3), (28, .iconst 0, 1), (29, .istore_n 3, 1), (30, .iload_n 3, 1), (31, .iload_n 1, 1), (32, .if_icmp .ge 17, 3), (35, .aload_n 0, 1), (36, .getfield 38, 3), (39, .invokevirtual 152, 3), (42, .pop, 1), (43, .iinc 3 1, 3), (46, .goto (-16), 3), (49, .aload_n 0, 1), (50, .getfield 12, 3), (53, .getfield 51, 3), (56, .iload_n 2, 1), (57, .invokevirtual 266, 3), (60, .istore_n 3, 1), (61, .aload_n 0, 1), (62, .getfield 38, 3), (65, .invokevirtual 269, 3), (68, .iload_n 3, 1), (69, .ireturn, 1)]
theorem dt_X11_goes : wg_dc cX11_goes tb_X11_goes := by unfold wg_dc; decide +kernel
def f_X11_goes_30  : Nat → Nat → Int32 → Int32 → Int32 → wg_M → Option (Int32 × wg_M)
  | 0, _, _, _, _, _ => none
  | n + 1, x0, x1, x2, x3, σ => if x1 ≤ x3 then (wg_bd (f_X0_sumUp (wg_r Sc (wg_r Sc x0 0) 0) x2 σ) (fun v1 s2 => wg_bd (f_X1_endThought (wg_r Sc x0 4) s2) (fun _ s3 => some (v1, s3)))) else (wg_bd (f_X1_passYear (wg_r Sc x0 4) σ) (fun v4 s5 => wg_let (x3 + (1 : Int32)) (fun v6 => f_X11_goes_30  n x0 x1 x2 v6 s5)))
def f_X11_goes  (x0 : Nat) (x1 : Int32) (x2 : Int32) (σ : wg_M) : Option (Int32 × wg_M) := wg_bd (f_X11_within x1 (1 : Int32) (60 : Int32) σ) (fun v1 s2 => if v1 = 0 then (some ((-1 : Int32), s2)) else (wg_bd (f_X11_within x2 (0 : Int32) (3 : Int32) s2) (fun v3 s4 => if v3 = 0 then (some ((-1 : Int32), s4)) else (wg_bd (f_X1_beginThought (wg_r Sc x0 4) s4) (fun _ s5 => f_X11_goes_30  wg_N x0 x1 x2 (0 : Int32) s5)))))
set_option maxRecDepth 20000 in
theorem g_X11_goes_30 (l : Launch) (E : wg_E)  (z : Int32 × wg_M) : ∀ (n : Nat) (x0 : Nat) (x1 : Int32) (x2 : Int32) (x3 : Int32) (σ : wg_M) (hx0 : wg_t Sc x0 = 13) (h : f_X11_goes_30  n x0 x1 x2 x3 σ = some z), wg_G l E Sc "WornWigs" cX11_goes 4 (some .int) rm_X11_goes (some z.1) z.2 30 [some (.ref x0), some (.int x1), some (.int x2), some (.int x3)] [] σ := by
  intro n
  induction n with
  | zero => intro x0 x1 x2 x3 σ hx0 h; cases h
  | succ n ih =>
    intro x0 x1 x2 x3 σ hx0 h
    refine wr_iload_n (wg_da dt_X11_goes 17 rfl) rfl ?_
    refine wr_iload_n (wg_da dt_X11_goes 18 rfl) rfl ?_
    refine wr_icmp_ge 49 (wg_da dt_X11_goes 19 rfl) (by decide) h (fun h => ?_) (fun h => ?_)
    · refine wr_aload_n (wg_da dt_X11_goes 26 rfl) rfl ?_
      refine wr_getR wf_X11_12 (wg_da dt_X11_goes 27 rfl) hx0 ?_
      refine wr_getR wf_X11_51 (wg_da dt_X11_goes 28 rfl) (wg_ty Sc_ok 11 0 12 hx0 rfl (by decide)).2 ?_
      refine wr_iload_n (wg_da dt_X11_goes 29 rfl) rfl ?_
      refine wr_callVi [.int x2] [] (wg_da dt_X11_goes 30 rfl) ⟨wq_5_75, wq_5_76, wq_5_77⟩ (wg_ty Sc_ok 10 0 2 (wg_ty Sc_ok 11 0 12 hx0 rfl (by decide)).2 rfl (by decide)).2 ⟨rfl, by decide⟩ wy_X0_sumUp (fun q hq => m_X0_sumUp l E (wg_r Sc (wg_r Sc x0 0) 0) x2 (wg_ty Sc_ok 10 0 2 (wg_ty Sc_ok 11 0 12 hx0 rfl (by decide)).2 rfl (by decide)).2 _ q hq) rfl rfl (Nat.le_of_ble_eq_true rfl) ⟨rfl, rfl, by decide, by decide⟩ h (fun v1 s2 h => ?_)
      refine wr_istore_n (wg_da dt_X11_goes 31 rfl) (by decide) ?_
      refine wr_aload_n (wg_da dt_X11_goes 32 rfl) rfl ?_
      refine wr_getR wf_X11_38 (wg_da dt_X11_goes 33 rfl) hx0 ?_
      refine wr_callVv [] [] (wg_da dt_X11_goes 34 rfl) ⟨wq_5_96, wq_5_97, wq_5_98⟩ (wg_ty Sc_ok 11 4 3 hx0 rfl (by decide)).2 ⟨rfl, by decide⟩ wy_X1_endThought (fun q hq => m_X1_endThought l E (wg_r Sc x0 4) (wg_ty Sc_ok 11 4 3 hx0 rfl (by decide)).2 _ q hq) rfl rfl (Nat.le_of_ble_eq_true rfl) ⟨rfl, rfl, by decide, by decide⟩ h (fun _ s3 h => ?_)
      refine wr_iload_n (wg_da dt_X11_goes 35 rfl) rfl ?_
      exact wr_iret (wg_da dt_X11_goes 36 rfl) h
    · refine wr_aload_n (wg_da dt_X11_goes 20 rfl) rfl ?_
      refine wr_getR wf_X11_38 (wg_da dt_X11_goes 21 rfl) hx0 ?_
      refine wr_callVi [] [] (wg_da dt_X11_goes 22 rfl) ⟨wq_4_26, wq_4_27, wq_4_28⟩ (wg_ty Sc_ok 11 4 3 hx0 rfl (by decide)).2 ⟨rfl, by decide⟩ wy_X1_passYear (fun q hq => m_X1_passYear l E (wg_r Sc x0 4) (wg_ty Sc_ok 11 4 3 hx0 rfl (by decide)).2 _ q hq) rfl rfl (Nat.le_of_ble_eq_true rfl) ⟨rfl, rfl, by decide, by decide⟩ h (fun v4 s5 h => ?_)
      refine wr_pop (wg_da dt_X11_goes 23 rfl) ?_
      refine wr_iinc (c0 := (1 : Int32)) (wg_da dt_X11_goes 24 rfl) rfl (by decide) (by decide) h (fun v6 h => ?_)
      refine wr_goto 30 (wg_da dt_X11_goes 25 rfl) (by decide) ?_
      exact wr_wk [true, true, true, true] (ih x0 x1 x2 v6 s5 hx0 h)
set_option maxRecDepth 20000 in
theorem g_X11_goes_e (l : Launch) (E : wg_E)  (x0 : Nat) (x1 : Int32) (x2 : Int32) (σ : wg_M) (z : Int32 × wg_M) (hx0 : wg_t Sc x0 = 13) (h : f_X11_goes  x0 x1 x2 σ = some z) : wg_G l E Sc "WornWigs" cX11_goes 4 (some .int) rm_X11_goes (some z.1) z.2 0 [some (.ref x0), some (.int x1), some (.int x2), none] [] σ := by
  refine wr_iload_n (wg_da dt_X11_goes 0 rfl) rfl ?_
  refine wr_iconst (1 : Int32) (wg_da dt_X11_goes 1 rfl) (by decide) ?_
  refine wr_bipush (60 : Int32) (wg_da dt_X11_goes 2 rfl) (by decide) ?_
  refine wr_callSi [.int x1, .int (1 : Int32), .int (60 : Int32)] [] (wg_da dt_X11_goes 3 rfl) ⟨wq_3_48, wq_3_49⟩ wy_X11_within (fun q hq => m_X11_within l E x1 (1 : Int32) (60 : Int32)  _ q hq) rfl rfl (Nat.le_of_ble_eq_true rfl) ⟨rfl, rfl, by decide, by decide⟩ h (fun v1 s2 h => ?_)
  refine wr_if_eq 19 (wg_da dt_X11_goes 4 rfl) (by decide) h (fun h => ?_) (fun h => ?_)
  · refine wr_iconst (-1 : Int32) (wg_da dt_X11_goes 10 rfl) (by decide) ?_
    exact wr_iret (wg_da dt_X11_goes 11 rfl) h
  · refine wr_iload_n (wg_da dt_X11_goes 5 rfl) rfl ?_
    refine wr_iconst (0 : Int32) (wg_da dt_X11_goes 6 rfl) (by decide) ?_
    refine wr_iconst (3 : Int32) (wg_da dt_X11_goes 7 rfl) (by decide) ?_
    refine wr_callSi [.int x2, .int (0 : Int32), .int (3 : Int32)] [] (wg_da dt_X11_goes 8 rfl) ⟨wq_3_48, wq_3_49⟩ wy_X11_within (fun q hq => m_X11_within l E x2 (0 : Int32) (3 : Int32)  _ q hq) rfl rfl (Nat.le_of_ble_eq_true rfl) ⟨rfl, rfl, by decide, by decide⟩ h (fun v3 s4 h => ?_)
    refine wr_if_ne 21 (wg_da dt_X11_goes 9 rfl) (by decide) h (fun h => ?_) (fun h => ?_)
    · refine wr_iconst (-1 : Int32) (wg_da dt_X11_goes 10 rfl) (by decide) ?_
      exact wr_iret (wg_da dt_X11_goes 11 rfl) h
    · refine wr_aload_n (wg_da dt_X11_goes 12 rfl) rfl ?_
      refine wr_getR wf_X11_38 (wg_da dt_X11_goes 13 rfl) hx0 ?_
      refine wr_callVv [] [] (wg_da dt_X11_goes 14 rfl) ⟨wq_5_70, wq_5_71, wq_5_72⟩ (wg_ty Sc_ok 11 4 3 hx0 rfl (by decide)).2 ⟨rfl, by decide⟩ wy_X1_beginThought (fun q hq => m_X1_beginThought l E (wg_r Sc x0 4) (wg_ty Sc_ok 11 4 3 hx0 rfl (by decide)).2 _ q hq) rfl rfl (Nat.le_of_ble_eq_true rfl) ⟨rfl, rfl, by decide, by decide⟩ h (fun _ s5 h => ?_)
      refine wr_iconst (0 : Int32) (wg_da dt_X11_goes 15 rfl) (by decide) ?_
      refine wr_istore_n (wg_da dt_X11_goes 16 rfl) (by decide) ?_
      exact wr_wk [true, true, true, true] (g_X11_goes_30 l E  _  wg_N x0 x1 x2 (0 : Int32) s5 hx0 h)
theorem m_X11_goes (l : Launch) (E : wg_E) (x0 : Nat) (x1 : Int32) (x2 : Int32) (hx0 : wg_t Sc x0 = 13) (σ : wg_M) (q : Int32 × wg_M) (h : f_X11_goes x0 x1 x2 σ = some q) : wg_MG l E Sc yX11_goes cX11_goes 4 (some .int) rm_X11_goes [.ref x0, .int x1, .int x2] σ (some q.1) q.2 :=
  wg_met [.ref x0, .int x1, .int x2] (plainFor_of_name (by decide)) (Nat.le_of_ble_eq_true rfl) (g_X11_goes_e l E x0 x1 x2 σ q hx0 h)
abbrev rm_X11_would : Room := { frames := 5, cells := 0, slots := 0, locals := 123 }
def tb_X11_would : List (Nat × Instr × Nat) := [(0, .aload_n 0, 1), (1, .getfield 12, 3), (4, .getfield 51, 3), (7, .iload_n 1, 1), (8, .invokevirtual 121, 3), (11, .ifCond .eq 20, 3), (14, .aload_n 0, 1), (15, .getfield 12, 3), (18, .getfield 51, 3), (21, .getfield 81, 3), (24, .iload_n 2, 1), (25, .invokevirtual 272, 3), (28, .ifCond .ne 7, 3), (31, .sipush (-10000), 3), (34, .ireturn, 1), (35, .aload_n 0, 1), (36, .getfield 38, 3), (39, .iload_n 1, 1), (40, .iload_n 2, 1), (41, .invokevirtual 275, 3), (44, .ireturn, 1)]
theorem dt_X11_would : wg_dc cX11_would tb_X11_would := by unfold wg_dc; decide +kernel
def f_X11_would  (x0 : Nat) (x1 : Int32) (x2 : Int32) (σ : wg_M) : Option (Int32 × wg_M) := wg_bd (f_X0_hasCase (wg_r Sc (wg_r Sc x0 0) 0) x1 σ) (fun v1 s2 => if v1 = 0 then (some ((-10000 : Int32), s2)) else (wg_bd (f_X2_lives (wg_r Sc (wg_r Sc (wg_r Sc x0 0) 0) 1) x2 s2) (fun v3 s4 => if v3 = 0 then (some ((-10000 : Int32), s4)) else (wg_bd (f_X1_verdictOf (wg_r Sc x0 4) x1 x2 s4) (fun v5 s6 => some (v5, s6))))))
set_option maxRecDepth 20000 in
theorem g_X11_would_e (l : Launch) (E : wg_E)  (x0 : Nat) (x1 : Int32) (x2 : Int32) (σ : wg_M) (z : Int32 × wg_M) (hx0 : wg_t Sc x0 = 13) (h : f_X11_would  x0 x1 x2 σ = some z) : wg_G l E Sc "WornWigs" cX11_would 3 (some .int) rm_X11_would (some z.1) z.2 0 [some (.ref x0), some (.int x1), some (.int x2)] [] σ := by
  refine wr_aload_n (wg_da dt_X11_would 0 rfl) rfl ?_
  refine wr_getR wf_X11_12 (wg_da dt_X11_would 1 rfl) hx0 ?_
  refine wr_getR wf_X11_51 (wg_da dt_X11_would 2 rfl) (wg_ty Sc_ok 11 0 12 hx0 rfl (by decide)).2 ?_
  refine wr_iload_n (wg_da dt_X11_would 3 rfl) rfl ?_
  refine wr_callVi [.int x1] [] (wg_da dt_X11_would 4 rfl) ⟨wq_3_112, wq_3_113, wq_3_114⟩ (wg_ty Sc_ok 10 0 2 (wg_ty Sc_ok 11 0 12 hx0 rfl (by decide)).2 rfl (by decide)).2 ⟨rfl, by decide⟩ wy_X0_hasCase (fun q hq => m_X0_hasCase l E (wg_r Sc (wg_r Sc x0 0) 0) x1 (wg_ty Sc_ok 10 0 2 (wg_ty Sc_ok 11 0 12 hx0 rfl (by decide)).2 rfl (by decide)).2 _ q hq) rfl rfl (Nat.le_of_ble_eq_true rfl) ⟨rfl, rfl, by decide, by decide⟩ h (fun v1 s2 h => ?_)
  refine wr_if_eq 31 (wg_da dt_X11_would 5 rfl) (by decide) h (fun h => ?_) (fun h => ?_)
  · refine wr_sipush (-10000 : Int32) (wg_da dt_X11_would 13 rfl) (by decide) ?_
    exact wr_iret (wg_da dt_X11_would 14 rfl) h
  · refine wr_aload_n (wg_da dt_X11_would 6 rfl) rfl ?_
    refine wr_getR wf_X11_12 (wg_da dt_X11_would 7 rfl) hx0 ?_
    refine wr_getR wf_X11_51 (wg_da dt_X11_would 8 rfl) (wg_ty Sc_ok 11 0 12 hx0 rfl (by decide)).2 ?_
    refine wr_getR wf_X11_81 (wg_da dt_X11_would 9 rfl) (wg_ty Sc_ok 10 0 2 (wg_ty Sc_ok 11 0 12 hx0 rfl (by decide)).2 rfl (by decide)).2 ?_
    refine wr_iload_n (wg_da dt_X11_would 10 rfl) rfl ?_
    refine wr_callVi [.int x2] [] (wg_da dt_X11_would 11 rfl) ⟨wq_5_104, wq_3_126, wq_3_127⟩ (wg_ty Sc_ok 0 1 4 (wg_ty Sc_ok 10 0 2 (wg_ty Sc_ok 11 0 12 hx0 rfl (by decide)).2 rfl (by decide)).2 rfl (by decide)).2 ⟨rfl, by decide⟩ wy_X2_lives (fun q hq => m_X2_lives l E (wg_r Sc (wg_r Sc (wg_r Sc x0 0) 0) 1) x2 (wg_ty Sc_ok 0 1 4 (wg_ty Sc_ok 10 0 2 (wg_ty Sc_ok 11 0 12 hx0 rfl (by decide)).2 rfl (by decide)).2 rfl (by decide)).2 _ q hq) rfl rfl (Nat.le_of_ble_eq_true rfl) ⟨rfl, rfl, by decide, by decide⟩ h (fun v3 s4 h => ?_)
    refine wr_if_ne 35 (wg_da dt_X11_would 12 rfl) (by decide) h (fun h => ?_) (fun h => ?_)
    · refine wr_sipush (-10000 : Int32) (wg_da dt_X11_would 13 rfl) (by decide) ?_
      exact wr_iret (wg_da dt_X11_would 14 rfl) h
    · refine wr_aload_n (wg_da dt_X11_would 15 rfl) rfl ?_
      refine wr_getR wf_X11_38 (wg_da dt_X11_would 16 rfl) hx0 ?_
      refine wr_iload_n (wg_da dt_X11_would 17 rfl) rfl ?_
      refine wr_iload_n (wg_da dt_X11_would 18 rfl) rfl ?_
      refine wr_callVi [.int x1, .int x2] [] (wg_da dt_X11_would 19 rfl) ⟨wq_5_105, wq_3_161, wq_3_162⟩ (wg_ty Sc_ok 11 4 3 hx0 rfl (by decide)).2 ⟨rfl, by decide⟩ wy_X1_verdictOf (fun q hq => m_X1_verdictOf l E (wg_r Sc x0 4) x1 x2 (wg_ty Sc_ok 11 4 3 hx0 rfl (by decide)).2 _ q hq) rfl rfl (Nat.le_of_ble_eq_true rfl) ⟨rfl, rfl, by decide, by decide⟩ h (fun v5 s6 h => ?_)
      exact wr_iret (wg_da dt_X11_would 20 rfl) h
theorem m_X11_would (l : Launch) (E : wg_E) (x0 : Nat) (x1 : Int32) (x2 : Int32) (hx0 : wg_t Sc x0 = 13) (σ : wg_M) (q : Int32 × wg_M) (h : f_X11_would x0 x1 x2 σ = some q) : wg_MG l E Sc yX11_would cX11_would 3 (some .int) rm_X11_would [.ref x0, .int x1, .int x2] σ (some q.1) q.2 :=
  wg_met [.ref x0, .int x1, .int x2] (plainFor_of_name (by decide)) (Nat.le_of_ble_eq_true rfl) (g_X11_would_e l E x0 x1 x2 σ q hx0 h)
abbrev rm_X11_forum : Room := { frames := 6, cells := 0, slots := 0, locals := 150 }
def tb_X11_forum : List (Nat × Instr × Nat) := [(0, .aload_n 0, 1), (1, .getfield 12, 3), (4, .getfield 51, 3), (7, .iload_n 1, 1), (8, .invokevirtual 121, 3), (11, .ifCond .eq 12, 3), (14, .iload_n 2, 1), (15, .iconst 0, 1), (16, .iconst 1, 1), (17, .invokestatic 73, 3), (20, .ifCond .ne 5, 3), (23, .iconst (-1), 1), (24, .ireturn, 1), (25, .aload_n 0, 1), (26, .getfield 47, 3), (29, .iload_n 1, 1), (30, .iload_n 2, 1), (31, .ifCond .ne 7, 3), (34, .iconst 1, 1), (35, .goto 4, 3), (38, .iconst 0, 1), (39, .invokevirtual 278, 3), (42, .ireturn, 1)]
theorem dt_X11_forum : wg_dc cX11_forum tb_X11_forum := by unfold wg_dc; decide +kernel
def f_X11_forum_39  (t0 : Int32) (t1 : Int32) (t2 : Nat) (σ : wg_M) : Option (Int32 × wg_M) := wg_bd (f_X7_forumOf t2 t1 t0 σ) (fun v1 s2 => some (v1, s2))
def f_X11_forum  (x0 : Nat) (x1 : Int32) (x2 : Int32) (σ : wg_M) : Option (Int32 × wg_M) := wg_bd (f_X0_hasCase (wg_r Sc (wg_r Sc x0 0) 0) x1 σ) (fun v1 s2 => if v1 = 0 then (some ((-1 : Int32), s2)) else (wg_bd (f_X11_within x2 (0 : Int32) (1 : Int32) s2) (fun v3 s4 => if v3 = 0 then (some ((-1 : Int32), s4)) else (if x2 = 0 then (f_X11_forum_39  (1 : Int32) x1 (wg_r Sc x0 5) s4) else (f_X11_forum_39  (0 : Int32) x1 (wg_r Sc x0 5) s4)))))
set_option maxRecDepth 20000 in
theorem g_X11_forum_39 (l : Launch) (E : wg_E)  (t0 : Int32) (t1 : Int32) (t2 : Nat) (σ : wg_M) (z : Int32 × wg_M) (ht2 : wg_t Sc t2 = 9) (h : f_X11_forum_39  t0 t1 t2 σ = some z) : wg_G l E Sc "WornWigs" cX11_forum 3 (some .int) rm_X11_forum (some z.1) z.2 39 [none, none, none] [.int t0, .int t1, .ref t2] σ := by
  refine wr_callVi [.int t1, .int t0] [] (wg_da dt_X11_forum 21 rfl) ⟨wq_5_110, wq_5_111, wq_5_112⟩ ht2 ⟨rfl, by decide⟩ wy_X7_forumOf (fun q hq => m_X7_forumOf l E t2 t1 t0 ht2 _ q hq) rfl rfl (Nat.le_of_ble_eq_true rfl) ⟨rfl, rfl, by decide, by decide⟩ h (fun v1 s2 h => ?_)
  exact wr_iret (wg_da dt_X11_forum 22 rfl) h
set_option maxRecDepth 20000 in
theorem g_X11_forum_e (l : Launch) (E : wg_E)  (x0 : Nat) (x1 : Int32) (x2 : Int32) (σ : wg_M) (z : Int32 × wg_M) (hx0 : wg_t Sc x0 = 13) (h : f_X11_forum  x0 x1 x2 σ = some z) : wg_G l E Sc "WornWigs" cX11_forum 3 (some .int) rm_X11_forum (some z.1) z.2 0 [some (.ref x0), some (.int x1), some (.int x2)] [] σ := by
  refine wr_aload_n (wg_da dt_X11_forum 0 rfl) rfl ?_
  refine wr_getR wf_X11_12 (wg_da dt_X11_forum 1 rfl) hx0 ?_
  refine wr_getR wf_X11_51 (wg_da dt_X11_forum 2 rfl) (wg_ty Sc_ok 11 0 12 hx0 rfl (by decide)).2 ?_
  refine wr_iload_n (wg_da dt_X11_forum 3 rfl) rfl ?_
  refine wr_callVi [.int x1] [] (wg_da dt_X11_forum 4 rfl) ⟨wq_3_112, wq_3_113, wq_3_114⟩ (wg_ty Sc_ok 10 0 2 (wg_ty Sc_ok 11 0 12 hx0 rfl (by decide)).2 rfl (by decide)).2 ⟨rfl, by decide⟩ wy_X0_hasCase (fun q hq => m_X0_hasCase l E (wg_r Sc (wg_r Sc x0 0) 0) x1 (wg_ty Sc_ok 10 0 2 (wg_ty Sc_ok 11 0 12 hx0 rfl (by decide)).2 rfl (by decide)).2 _ q hq) rfl rfl (Nat.le_of_ble_eq_true rfl) ⟨rfl, rfl, by decide, by decide⟩ h (fun v1 s2 h => ?_)
  refine wr_if_eq 23 (wg_da dt_X11_forum 5 rfl) (by decide) h (fun h => ?_) (fun h => ?_)
  · refine wr_iconst (-1 : Int32) (wg_da dt_X11_forum 11 rfl) (by decide) ?_
    exact wr_iret (wg_da dt_X11_forum 12 rfl) h
  · refine wr_iload_n (wg_da dt_X11_forum 6 rfl) rfl ?_
    refine wr_iconst (0 : Int32) (wg_da dt_X11_forum 7 rfl) (by decide) ?_
    refine wr_iconst (1 : Int32) (wg_da dt_X11_forum 8 rfl) (by decide) ?_
    refine wr_callSi [.int x2, .int (0 : Int32), .int (1 : Int32)] [] (wg_da dt_X11_forum 9 rfl) ⟨wq_3_48, wq_3_49⟩ wy_X11_within (fun q hq => m_X11_within l E x2 (0 : Int32) (1 : Int32)  _ q hq) rfl rfl (Nat.le_of_ble_eq_true rfl) ⟨rfl, rfl, by decide, by decide⟩ h (fun v3 s4 h => ?_)
    refine wr_if_ne 25 (wg_da dt_X11_forum 10 rfl) (by decide) h (fun h => ?_) (fun h => ?_)
    · refine wr_iconst (-1 : Int32) (wg_da dt_X11_forum 11 rfl) (by decide) ?_
      exact wr_iret (wg_da dt_X11_forum 12 rfl) h
    · refine wr_aload_n (wg_da dt_X11_forum 13 rfl) rfl ?_
      refine wr_getR wf_X11_47 (wg_da dt_X11_forum 14 rfl) hx0 ?_
      refine wr_iload_n (wg_da dt_X11_forum 15 rfl) rfl ?_
      refine wr_iload_n (wg_da dt_X11_forum 16 rfl) rfl ?_
      refine wr_if_ne 38 (wg_da dt_X11_forum 17 rfl) (by decide) h (fun h => ?_) (fun h => ?_)
      · refine wr_iconst (1 : Int32) (wg_da dt_X11_forum 18 rfl) (by decide) ?_
        refine wr_goto 39 (wg_da dt_X11_forum 19 rfl) (by decide) ?_
        exact wr_wk [false, false, false] (g_X11_forum_39 l E  (1 : Int32) x1 (wg_r Sc x0 5) s4 _ (wg_ty Sc_ok 11 5 9 hx0 rfl (by decide)).2  h)
      · refine wr_iconst (0 : Int32) (wg_da dt_X11_forum 20 rfl) (by decide) ?_
        exact wr_wk [false, false, false] (g_X11_forum_39 l E  (0 : Int32) x1 (wg_r Sc x0 5) s4 _ (wg_ty Sc_ok 11 5 9 hx0 rfl (by decide)).2  h)
theorem m_X11_forum (l : Launch) (E : wg_E) (x0 : Nat) (x1 : Int32) (x2 : Int32) (hx0 : wg_t Sc x0 = 13) (σ : wg_M) (q : Int32 × wg_M) (h : f_X11_forum x0 x1 x2 σ = some q) : wg_MG l E Sc yX11_forum cX11_forum 3 (some .int) rm_X11_forum [.ref x0, .int x1, .int x2] σ (some q.1) q.2 :=
  wg_met [.ref x0, .int x1, .int x2] (plainFor_of_name (by decide)) (Nat.le_of_ble_eq_true rfl) (g_X11_forum_e l E x0 x1 x2 σ q hx0 h)

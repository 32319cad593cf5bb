abbrev rm_X12_goesBy : Room := { frames := 7, cells := 0, slots := 0, locals := 166 }
def tb_X12_goesBy : List (Nat × Instr × Nat) := [(0, .iconst 0, 1), (1, .istore_n 1, 1), (2, .iload_n 1, 1), (3, .iconst 4, 1), (4, .aload_n 0, 1), (5, .getfield 312, 3), (8, .imul, 1), (9, .if_icmp .ge 84, 3), (12, .aload_n 0, 1), (13, .getfield 71, 3), (16, .iload_n 1, 1), (17, .iaload, 1), (18, .aload_n 0, 1), (19, .getfield 7, 3), (22, .iconst 0, 1), (23, .iaload, 1), (24, .if_icmp .ne 62, 3), (27, .aload_n 0, 1), (28, .aload_n 0, 1), (29, .getfield 71, 3), (32, .iload_n 1, 1), (33, .iconst 1, 1), (34, .iadd, 1), (35, .iaload, 1), (36, .aload_n 0, 1), (37, .getfield 71, 3), (40, .iload_n 1, 1), (41, .iconst 2, 1), (42, .iadd, 1), (43, .iaload, 1), (44, .aload_n 0, 1), (45, .getfield 71, 3), (48, .iload_n 1, 1), (49, .iconst 3, 1), (50, .iadd, 1), (51, .iaload, 1), (52, .invokevirtual 398, 3), (55, .ifCond .eq 31, 3), (58, .aload_n 0, 1), (59, .aload_n 0, 1), (60, .getfield 71, 3), (63, .iload_n 1, 1), (64, .iconst 1, 1), (65, .iadd, 1), (66, .iaload, 1), (67, .aload_n 0, 1), (68, .getfield 71, 3), (71, .iload_n 1, 1), (72, .iconst 2, 1), (73, .iadd, 1), (74, .iaload, 1), (75, .aload_n 0, 1), (76, .getfield 71, 3), (79, .iload_n 1, 1), (80, .iconst 3, 1), (81, .iadd, 1), (82, .iaload, 1), (83, .invokevirtual 401, 3), (86, .iload_n 1, 1), (87, .iconst 4, 1), (88, .iadd, 1), (89, .istore_n 1, 1), (90, .goto (-88), 3), (93, .iconst 0, 1), (94, .istore_n 1, 1), (95, .iload_n 1, 1), (96, .iconst 3, 1), (97, .aload_n 0, 1), (98, .getfield 309, 3), (101, .imul, 1), (102, .if_icmp .ge 69, 3), (105, .aload_n 0, 1), (106, .getfield 68, 3), (109, .iload_n 1, 1), (110, .iaload, 1), (111, .aload_n 0, 1), (112, .getfield 7, 3), (115, .iconst 0, 1), (116, .iaload, 1), (117, .if_icmp .ne 47, 3), (120, .aload_n 0, 1), (121, .aload_n 0, 1), (122, .getfield 68, 3), (125, .iload_n 1, 1), (126, .iconst 1, 1), (127, .iadd, 1), (128, .iaload, 1), (129, .aload_n 0, 1), (130, .getfield 68, 3), (133, .iload_n 1, 1), (134, .iconst 2, 1), (135, .iadd, 1), (136, .iaload, 1), (137, .invokevirtual 370, 3), (140, .ifCond .eq 24, 3), (143, .aload_n 0, 1), (144, .aload_n 0, 1), (145, .getfield 68, 3), (148, .iload_n 1, 1), (149, .iconst 1, 1), (150, .iadd, 1), (151, .iaload, 1), (152, .aload_n 0, 1), (153, .getfield 68, 3), (156, .iload_n 1, 1), (157, .iconst 2, 1), (158, .iadd, 1), (159, .iaload, 1), (160, .invokevirtual 377, 3), (163, .pop, 1), (164, .iload_n 1, 1), (165, .iconst 3, 1), (166, .iadd, 1), (167, .istore_n 1, 1), (168, .goto (-73), 3), (171, .iconst 0, 1), (172, .istore_n 1, 1), (173, .iconst 0, 1), (174, .istore_n 2, 1), (175, .iload_n 2, 1), (176, .aload_n 0, 1), (177, .getfield 128, 3), (180, .if_icmp .ge 64, 3), (183, .aload_n 0, 1), (184, .iload_n 2, 1), (185, .invokevirtual 354, 3), (188, .ifCond .ne 6, 3), (191, .goto 47, 3), (194, .aload_n 0, 1), (195, .getfield 7, 3), (198, .iconst 3, 1), (199, .iload_n 2, 1), (200, .iadd, 1), (201, .aload_n 0, 1), (202, .bipush 120, 2), (204, .aload_n 0, 1), (205, .getfield 7, 3), (208, .iconst 3, 1), (209, .iload_n 2, 1), (210, .iadd, 1), (211, .iaload, 1), (212, .iconst 1, 1), (213, .iadd, 1), (214, .invokevirtual 146, 3), (217, .iastore, 1), (218, .aload_n 0, 1), (219, .iload_n 2, 1), (220, .invokevirtual 416, 3), (223, .ifCond .ne 6, 3), (226, .goto 12, 3), (229, .aload_n 0, 1), (230, .iload_n 2, 1), (231, .invokevirtual 419, 3), (234, .iload_n 1, 1), (235, .iconst 1, 1), (236, .iadd, 1), (237, .istore_n 1, 1), (238, .iinc 2 1, 3), (241, .goto (-66), 3), (244, .iconst 0, 1), (245, .istore_n 2, 1), (246, .iload_n 2, 1), (247, .aload_n 0, 1), (248, .getfield 125, 3), (251, .if_icmp .ge 14, 3), (254, .aload_n 0, 1), (255, .iload_n 2, 1), (256, .invokevirtual 422, 3), (259, .iinc 2 1, 3), (262, .goto (-16), 3), (265, .aload_n 0, 1), (266, .getfield 7, 3), (269, .iconst 0, 1), (270, .aload_n 0, 1), (271, .getfield 7, 3), (274, .iconst 0, 1), (275, .iaload, 1), (276, .iconst 1, 1), (277, .iadd, 1), (278, .iastore, 1), (279, .iload_n 1, 1), (280, .ireturn, 1)]
theorem dt_X12_goesBy : wg_dc cX12_goesBy tb_X12_goesBy := by unfold wg_dc; decide +kernel
def f_X12_goesBy_86 (k2 : Nat → Int32 → wg_M → Option (Int32 × wg_M)) (x0 : Nat) (x1 : Int32) (σ : wg_M) : Option (Int32 × wg_M) := wg_let (x1 + (4 : Int32)) (fun v1 => k2 x0 v1 σ)
def f_X12_goesBy_164 (k95 : Nat → Int32 → wg_M → Option (Int32 × wg_M)) (x0 : Nat) (x1 : Int32) (σ : wg_M) : Option (Int32 × wg_M) := wg_let (x1 + (3 : Int32)) (fun v1 => k95 x0 v1 σ)
def f_X12_goesBy_238 (k175 : Nat → Int32 → Int32 → wg_M → Option (Int32 × wg_M)) (x0 : Nat) (x1 : Int32) (x2 : Int32) (σ : wg_M) : Option (Int32 × wg_M) := wg_let (x2 + (1 : Int32)) (fun v1 => k175 x0 x1 v1 σ)
def f_X12_goesBy_246  : Nat → Nat → Int32 → Int32 → wg_M → Option (Int32 × wg_M)
  | 0, _, _, _, _ => none
  | n + 1, x0, x1, x2, σ => if (σ x0 6) ≤ x2 then (wg_ga (wg_n Sm (wg_r Sm x0 1)) (σ (wg_r Sm x0 1)) (0 : Int32) (fun v1 => wg_sa (wg_n Sm (wg_r Sm x0 1)) σ (wg_r Sm x0 1) (0 : Int32) (v1 + (1 : Int32)) (fun s2 => some (x1, s2)))) else (wg_bd (f_X12_wears x0 x2 σ) (fun _ s3 => wg_let (x2 + (1 : Int32)) (fun v4 => f_X12_goesBy_246  n x0 x1 v4 s3)))
def f_X12_goesBy_175  : Nat → Nat → Int32 → Int32 → wg_M → Option (Int32 × wg_M)
  | 0, _, _, _, _ => none
  | n + 1, x0, x1, x2, σ => if (σ x0 7) ≤ x2 then (f_X12_goesBy_246  wg_N x0 x1 (0 : Int32) σ) else (wg_bd (f_X12_isAlive x0 x2 σ) (fun v1 s2 => if v1 = 0 then (f_X12_goesBy_238 (f_X12_goesBy_175  n) x0 x1 x2 s2) else (wg_ga (wg_n Sm (wg_r Sm x0 1)) (s2 (wg_r Sm x0 1)) ((3 : Int32) + x2) (fun v3 => wg_bd (f_X12_lesser x0 (120 : Int32) (v3 + (1 : Int32)) s2) (fun v4 s5 => wg_sa (wg_n Sm (wg_r Sm x0 1)) s5 (wg_r Sm x0 1) ((3 : Int32) + x2) v4 (fun s6 => wg_bd (f_X12_isEnding x0 x2 s6) (fun v7 s8 => if v7 = 0 then (f_X12_goesBy_238 (f_X12_goesBy_175  n) x0 x1 x2 s8) else (wg_bd (f_X12_dies x0 x2 s8) (fun _ s9 => wg_let (x1 + (1 : Int32)) (fun v10 => f_X12_goesBy_238 (f_X12_goesBy_175  n) x0 v10 x2 s9))))))))))
def f_X12_goesBy_95  : Nat → Nat → Int32 → wg_M → Option (Int32 × wg_M)
  | 0, _, _, _ => none
  | n + 1, x0, x1, σ => if ((3 : Int32) * (σ x0 37)) ≤ x1 then (f_X12_goesBy_175  wg_N x0 (0 : Int32) (0 : Int32) σ) else (wg_ga (wg_n Sm (wg_r Sm x0 38)) (σ (wg_r Sm x0 38)) x1 (fun v1 => wg_ga (wg_n Sm (wg_r Sm x0 1)) (σ (wg_r Sm x0 1)) (0 : Int32) (fun v2 => if v1 = v2 then (wg_ga (wg_n Sm (wg_r Sm x0 38)) (σ (wg_r Sm x0 38)) (x1 + (1 : Int32)) (fun v3 => wg_ga (wg_n Sm (wg_r Sm x0 38)) (σ (wg_r Sm x0 38)) (x1 + (2 : Int32)) (fun v4 => wg_bd (f_X12_canTry x0 v3 v4 σ) (fun v5 s6 => if v5 = 0 then (f_X12_goesBy_164 (f_X12_goesBy_95  n) x0 x1 s6) else (wg_ga (wg_n Sm (wg_r Sm x0 38)) (s6 (wg_r Sm x0 38)) (x1 + (1 : Int32)) (fun v7 => wg_ga (wg_n Sm (wg_r Sm x0 38)) (s6 (wg_r Sm x0 38)) (x1 + (2 : Int32)) (fun v8 => wg_bd (f_X12_judgesCase x0 v7 v8 s6) (fun v9 s10 => f_X12_goesBy_164 (f_X12_goesBy_95  n) x0 x1 s10)))))))) else (f_X12_goesBy_164 (f_X12_goesBy_95  n) x0 x1 σ))))
def f_X12_goesBy_2  : Nat → Nat → Int32 → wg_M → Option (Int32 × wg_M)
  | 0, _, _, _ => none
  | n + 1, x0, x1, σ => if ((4 : Int32) * (σ x0 39)) ≤ x1 then (f_X12_goesBy_95  wg_N x0 (0 : Int32) σ) else (wg_ga (wg_n Sm (wg_r Sm x0 40)) (σ (wg_r Sm x0 40)) x1 (fun v1 => wg_ga (wg_n Sm (wg_r Sm x0 1)) (σ (wg_r Sm x0 1)) (0 : Int32) (fun v2 => if v1 = v2 then (wg_ga (wg_n Sm (wg_r Sm x0 40)) (σ (wg_r Sm x0 40)) (x1 + (1 : Int32)) (fun v3 => wg_ga (wg_n Sm (wg_r Sm x0 40)) (σ (wg_r Sm x0 40)) (x1 + (2 : Int32)) (fun v4 => wg_ga (wg_n Sm (wg_r Sm x0 40)) (σ (wg_r Sm x0 40)) (x1 + (3 : Int32)) (fun v5 => wg_bd (f_X12_canAct x0 v3 v4 v5 σ) (fun v6 s7 => if v6 = 0 then (f_X12_goesBy_86 (f_X12_goesBy_2  n) x0 x1 s7) else (wg_ga (wg_n Sm (wg_r Sm x0 40)) (s7 (wg_r Sm x0 40)) (x1 + (1 : Int32)) (fun v8 => wg_ga (wg_n Sm (wg_r Sm x0 40)) (s7 (wg_r Sm x0 40)) (x1 + (2 : Int32)) (fun v9 => wg_ga (wg_n Sm (wg_r Sm x0 40)) (s7 (wg_r Sm x0 40)) (x1 + (3 : Int32)) (fun v10 => wg_bd (f_X12_acts x0 v8 v9 v10 s7) (fun _ s11 => f_X12_goesBy_86 (f_X12_goesBy_2  n) x0 x1 s11)))))))))) else (f_X12_goesBy_86 (f_X12_goesBy_2  n) x0 x1 σ))))
def f_X12_goesBy  (x0 : Nat) (σ : wg_M) : Option (Int32 × wg_M) := f_X12_goesBy_2  wg_N x0 (0 : Int32) σ
set_option maxRecDepth 20000 in
theorem g_X12_goesBy_86 (l : Launch) (E : wg_E) (k2 : Nat → Int32 → wg_M → Option (Int32 × wg_M)) (x0 : Nat) (x1 : Int32) (σ : wg_M) (z : Int32 × wg_M) (hx0 : wg_t Sm x0 = 14) (hk2 : ∀ (x0 : Nat) (x1 : Int32) (σ : wg_M), wg_t Sm x0 = 14 → k2 x0 x1 σ = some z → wg_G l E Sm "WornWigsModel" cX12_goesBy 3 (some .int) rm_X12_goesBy (some z.1) z.2 2 [some (.ref x0), some (.int x1), none] [] σ) (h : f_X12_goesBy_86 k2 x0 x1 σ = some z) : wg_G l E Sm "WornWigsModel" cX12_goesBy 3 (some .int) rm_X12_goesBy (some z.1) z.2 86 [some (.ref x0), some (.int x1), none] [] σ := by
  refine wr_iload_n (wg_da dt_X12_goesBy 58 rfl) rfl ?_
  refine wr_iconst (4 : Int32) (wg_da dt_X12_goesBy 59 rfl) (by decide) ?_
  refine wr_iadd (wg_da dt_X12_goesBy 60 rfl) ?_
  refine wr_let h (fun v1 h => ?_)
  refine wr_istore_n (wg_da dt_X12_goesBy 61 rfl) (by decide) ?_
  refine wr_goto 2 (wg_da dt_X12_goesBy 62 rfl) (by decide) ?_
  exact wr_wk [true, true, false] (hk2 x0 v1 σ hx0 h)
set_option maxRecDepth 20000 in
theorem g_X12_goesBy_164 (l : Launch) (E : wg_E) (k95 : Nat → Int32 → wg_M → Option (Int32 × wg_M)) (x0 : Nat) (x1 : Int32) (σ : wg_M) (z : Int32 × wg_M) (hx0 : wg_t Sm x0 = 14) (hk95 : ∀ (x0 : Nat) (x1 : Int32) (σ : wg_M), wg_t Sm x0 = 14 → k95 x0 x1 σ = some z → wg_G l E Sm "WornWigsModel" cX12_goesBy 3 (some .int) rm_X12_goesBy (some z.1) z.2 95 [some (.ref x0), some (.int x1), none] [] σ) (h : f_X12_goesBy_164 k95 x0 x1 σ = some z) : wg_G l E Sm "WornWigsModel" cX12_goesBy 3 (some .int) rm_X12_goesBy (some z.1) z.2 164 [some (.ref x0), some (.int x1), none] [] σ := by
  refine wr_iload_n (wg_da dt_X12_goesBy 110 rfl) rfl ?_
  refine wr_iconst (3 : Int32) (wg_da dt_X12_goesBy 111 rfl) (by decide) ?_
  refine wr_iadd (wg_da dt_X12_goesBy 112 rfl) ?_
  refine wr_let h (fun v1 h => ?_)
  refine wr_istore_n (wg_da dt_X12_goesBy 113 rfl) (by decide) ?_
  refine wr_goto 95 (wg_da dt_X12_goesBy 114 rfl) (by decide) ?_
  exact wr_wk [true, true, false] (hk95 x0 v1 σ hx0 h)
set_option maxRecDepth 20000 in
theorem g_X12_goesBy_238 (l : Launch) (E : wg_E) (k175 : Nat → Int32 → Int32 → wg_M → Option (Int32 × wg_M)) (x0 : Nat) (x1 : Int32) (x2 : Int32) (σ : wg_M) (z : Int32 × wg_M) (hx0 : wg_t Sm x0 = 14) (hk175 : ∀ (x0 : Nat) (x1 : Int32) (x2 : Int32) (σ : wg_M), wg_t Sm x0 = 14 → k175 x0 x1 x2 σ = some z → wg_G l E Sm "WornWigsModel" cX12_goesBy 3 (some .int) rm_X12_goesBy (some z.1) z.2 175 [some (.ref x0), some (.int x1), some (.int x2)] [] σ) (h : f_X12_goesBy_238 k175 x0 x1 x2 σ = some z) : wg_G l E Sm "WornWigsModel" cX12_goesBy 3 (some .int) rm_X12_goesBy (some z.1) z.2 238 [some (.ref x0), some (.int x1), some (.int x2)] [] σ := by
  refine wr_iinc (c0 := (1 : Int32)) (wg_da dt_X12_goesBy 157 rfl) rfl (by decide) (by decide) h (fun v1 h => ?_)
  refine wr_goto 175 (wg_da dt_X12_goesBy 158 rfl) (by decide) ?_
  exact wr_wk [true, true, true] (hk175 x0 x1 v1 σ hx0 h)
set_option maxRecDepth 20000 in
theorem g_X12_goesBy_246 (l : Launch) (E : wg_E)  (z : Int32 × wg_M) : ∀ (n : Nat) (x0 : Nat) (x1 : Int32) (x2 : Int32) (σ : wg_M) (hx0 : wg_t Sm x0 = 14) (h : f_X12_goesBy_246  n x0 x1 x2 σ = some z), wg_G l E Sm "WornWigsModel" cX12_goesBy 3 (some .int) rm_X12_goesBy (some z.1) z.2 246 [some (.ref x0), some (.int x1), some (.int x2)] [] σ := by
  intro n
  induction n with
  | zero => intro x0 x1 x2 σ hx0 h; cases h
  | succ n ih =>
    intro x0 x1 x2 σ hx0 h
    refine wr_iload_n (wg_da dt_X12_goesBy 161 rfl) rfl ?_
    refine wr_aload_n (wg_da dt_X12_goesBy 162 rfl) rfl ?_
    refine wr_getI wf_X12_125 (wg_da dt_X12_goesBy 163 rfl) hx0 ?_
    refine wr_icmp_ge 265 (wg_da dt_X12_goesBy 164 rfl) (by decide) h (fun h => ?_) (fun h => ?_)
    · refine wr_aload_n (wg_da dt_X12_goesBy 170 rfl) rfl ?_
      refine wr_getR wf_X12_7 (wg_da dt_X12_goesBy 171 rfl) hx0 ?_
      refine wr_iconst (0 : Int32) (wg_da dt_X12_goesBy 172 rfl) (by decide) ?_
      refine wr_aload_n (wg_da dt_X12_goesBy 173 rfl) rfl ?_
      refine wr_getR wf_X12_7 (wg_da dt_X12_goesBy 174 rfl) hx0 ?_
      refine wr_iconst (0 : Int32) (wg_da dt_X12_goesBy 175 rfl) (by decide) ?_
      refine wr_iald (wg_da dt_X12_goesBy 176 rfl) (wg_ty Sm_ok 12 1 0 hx0 rfl (by decide)).2 h (fun v1 h => ?_)
      refine wr_iconst (1 : Int32) (wg_da dt_X12_goesBy 177 rfl) (by decide) ?_
      refine wr_iadd (wg_da dt_X12_goesBy 178 rfl) ?_
      refine wr_iast (wg_da dt_X12_goesBy 179 rfl) (wg_ty Sm_ok 12 1 0 hx0 rfl (by decide)).2 h (fun s2 h => ?_)
      refine wr_iload_n (wg_da dt_X12_goesBy 180 rfl) rfl ?_
      exact wr_iret (wg_da dt_X12_goesBy 181 rfl) h
    · refine wr_aload_n (wg_da dt_X12_goesBy 165 rfl) rfl ?_
      refine wr_iload_n (wg_da dt_X12_goesBy 166 rfl) rfl ?_
      refine wr_callVv [.int x2] [] (wg_da dt_X12_goesBy 167 rfl) ⟨wq_8_196, wq_8_198, wq_p9_0⟩ hx0 ⟨rfl, by decide⟩ wy_X12_wears (fun q hq => m_X12_wears l E x0 x2 hx0 _ q hq) rfl rfl (Nat.le_of_ble_eq_true rfl) ⟨rfl, rfl, by decide, by decide⟩ h (fun _ s3 h => ?_)
      refine wr_iinc (c0 := (1 : Int32)) (wg_da dt_X12_goesBy 168 rfl) rfl (by decide) (by decide) h (fun v4 h => ?_)
      refine wr_goto 246 (wg_da dt_X12_goesBy 169 rfl) (by decide) ?_
      exact wr_wk [true, true, true] (ih x0 x1 v4 s3 hx0 h)
set_option maxRecDepth 20000 in
theorem g_X12_goesBy_175 (l : Launch) (E : wg_E)  (z : Int32 × wg_M) : ∀ (n : Nat) (x0 : Nat) (x1 : Int32) (x2 : Int32) (σ : wg_M) (hx0 : wg_t Sm x0 = 14) (h : f_X12_goesBy_175  n x0 x1 x2 σ = some z), wg_G l E Sm "WornWigsModel" cX12_goesBy 3 (some .int) rm_X12_goesBy (some z.1) z.2 175 [some (.ref x0), some (.int x1), some (.int x2)] [] σ := by
  intro n
  induction n with
  | zero => intro x0 x1 x2 σ hx0 h; cases h
  | succ n ih =>
    intro x0 x1 x2 σ hx0 h
    refine wr_iload_n (wg_da dt_X12_goesBy 119 rfl) rfl ?_
    refine wr_aload_n (wg_da dt_X12_goesBy 120 rfl) rfl ?_
    refine wr_getI wf_X12_128 (wg_da dt_X12_goesBy 121 rfl) hx0 ?_
    refine wr_icmp_ge 244 (wg_da dt_X12_goesBy 122 rfl) (by decide) h (fun h => ?_) (fun h => ?_)
    · refine wr_iconst (0 : Int32) (wg_da dt_X12_goesBy 159 rfl) (by decide) ?_
      refine wr_istore_n (wg_da dt_X12_goesBy 160 rfl) (by decide) ?_
      exact wr_wk [true, true, true] (g_X12_goesBy_246 l E  _  wg_N x0 x1 (0 : Int32) σ hx0 h)
    · refine wr_aload_n (wg_da dt_X12_goesBy 123 rfl) rfl ?_
      refine wr_iload_n (wg_da dt_X12_goesBy 124 rfl) rfl ?_
      refine wr_callVi [.int x2] [] (wg_da dt_X12_goesBy 125 rfl) ⟨wq_8_62, wq_8_64, wq_p7_1⟩ hx0 ⟨rfl, by decide⟩ wy_X12_isAlive (fun q hq => m_X12_isAlive l E x0 x2 hx0 _ q hq) rfl rfl (Nat.le_of_ble_eq_true rfl) ⟨rfl, rfl, by decide, by decide⟩ h (fun v1 s2 h => ?_)
      refine wr_if_ne 194 (wg_da dt_X12_goesBy 126 rfl) (by decide) h (fun h => ?_) (fun h => ?_)
      · refine wr_goto 238 (wg_da dt_X12_goesBy 127 rfl) (by decide) ?_
        exact wr_wk [true, true, true] (g_X12_goesBy_238 l E (f_X12_goesBy_175  n) x0 x1 x2 s2 _ hx0 (fun x0 x1 x2 σ hx0 h => ih x0 x1 x2 σ hx0 h) h)
      · refine wr_aload_n (wg_da dt_X12_goesBy 128 rfl) rfl ?_
        refine wr_getR wf_X12_7 (wg_da dt_X12_goesBy 129 rfl) hx0 ?_
        refine wr_iconst (3 : Int32) (wg_da dt_X12_goesBy 130 rfl) (by decide) ?_
        refine wr_iload_n (wg_da dt_X12_goesBy 131 rfl) rfl ?_
        refine wr_iadd (wg_da dt_X12_goesBy 132 rfl) ?_
        refine wr_aload_n (wg_da dt_X12_goesBy 133 rfl) rfl ?_
        refine wr_bipush (120 : Int32) (wg_da dt_X12_goesBy 134 rfl) (by decide) ?_
        refine wr_aload_n (wg_da dt_X12_goesBy 135 rfl) rfl ?_
        refine wr_getR wf_X12_7 (wg_da dt_X12_goesBy 136 rfl) hx0 ?_
        refine wr_iconst (3 : Int32) (wg_da dt_X12_goesBy 137 rfl) (by decide) ?_
        refine wr_iload_n (wg_da dt_X12_goesBy 138 rfl) rfl ?_
        refine wr_iadd (wg_da dt_X12_goesBy 139 rfl) ?_
        refine wr_iald (wg_da dt_X12_goesBy 140 rfl) (wg_ty Sm_ok 12 1 0 hx0 rfl (by decide)).2 h (fun v3 h => ?_)
        refine wr_iconst (1 : Int32) (wg_da dt_X12_goesBy 141 rfl) (by decide) ?_
        refine wr_iadd (wg_da dt_X12_goesBy 142 rfl) ?_
        refine wr_callVi [.int (120 : Int32), .int (v3 + (1 : Int32))] [.int ((3 : Int32) + x2), .ref (wg_r Sm x0 1)] (wg_da dt_X12_goesBy 143 rfl) ⟨wq_7_118, wq_7_120, wq_p4_9⟩ hx0 ⟨rfl, by decide⟩ wy_X12_lesser (fun q hq => m_X12_lesser l E x0 (120 : Int32) (v3 + (1 : Int32)) hx0 _ q hq) rfl rfl (Nat.le_of_ble_eq_true rfl) ⟨rfl, rfl, by decide, by decide⟩ h (fun v4 s5 h => ?_)
        refine wr_iast (wg_da dt_X12_goesBy 144 rfl) (wg_ty Sm_ok 12 1 0 hx0 rfl (by decide)).2 h (fun s6 h => ?_)
        refine wr_aload_n (wg_da dt_X12_goesBy 145 rfl) rfl ?_
        refine wr_iload_n (wg_da dt_X12_goesBy 146 rfl) rfl ?_
        refine wr_callVi [.int x2] [] (wg_da dt_X12_goesBy 147 rfl) ⟨wq_8_174, wq_8_176, wq_p8_11⟩ hx0 ⟨rfl, by decide⟩ wy_X12_isEnding (fun q hq => m_X12_isEnding l E x0 x2 hx0 _ q hq) rfl rfl (Nat.le_of_ble_eq_true rfl) ⟨rfl, rfl, by decide, by decide⟩ h (fun v7 s8 h => ?_)
        refine wr_if_ne 229 (wg_da dt_X12_goesBy 148 rfl) (by decide) h (fun h => ?_) (fun h => ?_)
        · refine wr_goto 238 (wg_da dt_X12_goesBy 149 rfl) (by decide) ?_
          exact wr_wk [true, true, true] (g_X12_goesBy_238 l E (f_X12_goesBy_175  n) x0 x1 x2 s8 _ hx0 (fun x0 x1 x2 σ hx0 h => ih x0 x1 x2 σ hx0 h) h)
        · refine wr_aload_n (wg_da dt_X12_goesBy 150 rfl) rfl ?_
          refine wr_iload_n (wg_da dt_X12_goesBy 151 rfl) rfl ?_
          refine wr_callVv [.int x2] [] (wg_da dt_X12_goesBy 152 rfl) ⟨wq_8_188, wq_8_190, wq_p8_14⟩ hx0 ⟨rfl, by decide⟩ wy_X12_dies (fun q hq => m_X12_dies l E x0 x2 hx0 _ q hq) rfl rfl (Nat.le_of_ble_eq_true rfl) ⟨rfl, rfl, by decide, by decide⟩ h (fun _ s9 h => ?_)
          refine wr_iload_n (wg_da dt_X12_goesBy 153 rfl) rfl ?_
          refine wr_iconst (1 : Int32) (wg_da dt_X12_goesBy 154 rfl) (by decide) ?_
          refine wr_iadd (wg_da dt_X12_goesBy 155 rfl) ?_
          refine wr_let h (fun v10 h => ?_)
          refine wr_istore_n (wg_da dt_X12_goesBy 156 rfl) (by decide) ?_
          exact wr_wk [true, true, true] (g_X12_goesBy_238 l E (f_X12_goesBy_175  n) x0 v10 x2 s9 _ hx0 (fun x0 x1 x2 σ hx0 h => ih x0 x1 x2 σ hx0 h) h)
set_option maxRecDepth 20000 in
theorem g_X12_goesBy_95 (l : Launch) (E : wg_E)  (z : Int32 × wg_M) : ∀ (n : Nat) (x0 : Nat) (x1 : Int32) (σ : wg_M) (hx0 : wg_t Sm x0 = 14) (h : f_X12_goesBy_95  n x0 x1 σ = some z), wg_G l E Sm "WornWigsModel" cX12_goesBy 3 (some .int) rm_X12_goesBy (some z.1) z.2 95 [some (.ref x0), some (.int x1), none] [] σ := by
  intro n
  induction n with
  | zero => intro x0 x1 σ hx0 h; cases h
  | succ n ih =>
    intro x0 x1 σ hx0 h
    refine wr_iload_n (wg_da dt_X12_goesBy 65 rfl) rfl ?_
    refine wr_iconst (3 : Int32) (wg_da dt_X12_goesBy 66 rfl) (by decide) ?_
    refine wr_aload_n (wg_da dt_X12_goesBy 67 rfl) rfl ?_
    refine wr_getI wf_X12_309 (wg_da dt_X12_goesBy 68 rfl) hx0 ?_
    refine wr_imul (wg_da dt_X12_goesBy 69 rfl) ?_
    refine wr_icmp_ge 171 (wg_da dt_X12_goesBy 70 rfl) (by decide) h (fun h => ?_) (fun h => ?_)
    · refine wr_iconst (0 : Int32) (wg_da dt_X12_goesBy 115 rfl) (by decide) ?_
      refine wr_istore_n (wg_da dt_X12_goesBy 116 rfl) (by decide) ?_
      refine wr_iconst (0 : Int32) (wg_da dt_X12_goesBy 117 rfl) (by decide) ?_
      refine wr_istore_n (wg_da dt_X12_goesBy 118 rfl) (by decide) ?_
      exact wr_wk [true, true, true] (g_X12_goesBy_175 l E  _  wg_N x0 (0 : Int32) (0 : Int32) σ hx0 h)
    · refine wr_aload_n (wg_da dt_X12_goesBy 71 rfl) rfl ?_
      refine wr_getR wf_X12_68 (wg_da dt_X12_goesBy 72 rfl) hx0 ?_
      refine wr_iload_n (wg_da dt_X12_goesBy 73 rfl) rfl ?_
      refine wr_iald (wg_da dt_X12_goesBy 74 rfl) (wg_ty Sm_ok 12 38 0 hx0 rfl (by decide)).2 h (fun v1 h => ?_)
      refine wr_aload_n (wg_da dt_X12_goesBy 75 rfl) rfl ?_
      refine wr_getR wf_X12_7 (wg_da dt_X12_goesBy 76 rfl) hx0 ?_
      refine wr_iconst (0 : Int32) (wg_da dt_X12_goesBy 77 rfl) (by decide) ?_
      refine wr_iald (wg_da dt_X12_goesBy 78 rfl) (wg_ty Sm_ok 12 1 0 hx0 rfl (by decide)).2 h (fun v2 h => ?_)
      refine wr_icmp_ne 164 (wg_da dt_X12_goesBy 79 rfl) (by decide) h (fun h => ?_) (fun h => ?_)
      · refine wr_aload_n (wg_da dt_X12_goesBy 80 rfl) rfl ?_
        refine wr_aload_n (wg_da dt_X12_goesBy 81 rfl) rfl ?_
        refine wr_getR wf_X12_68 (wg_da dt_X12_goesBy 82 rfl) hx0 ?_
        refine wr_iload_n (wg_da dt_X12_goesBy 83 rfl) rfl ?_
        refine wr_iconst (1 : Int32) (wg_da dt_X12_goesBy 84 rfl) (by decide) ?_
        refine wr_iadd (wg_da dt_X12_goesBy 85 rfl) ?_
        refine wr_iald (wg_da dt_X12_goesBy 86 rfl) (wg_ty Sm_ok 12 38 0 hx0 rfl (by decide)).2 h (fun v3 h => ?_)
        refine wr_aload_n (wg_da dt_X12_goesBy 87 rfl) rfl ?_
        refine wr_getR wf_X12_68 (wg_da dt_X12_goesBy 88 rfl) hx0 ?_
        refine wr_iload_n (wg_da dt_X12_goesBy 89 rfl) rfl ?_
        refine wr_iconst (2 : Int32) (wg_da dt_X12_goesBy 90 rfl) (by decide) ?_
        refine wr_iadd (wg_da dt_X12_goesBy 91 rfl) ?_
        refine wr_iald (wg_da dt_X12_goesBy 92 rfl) (wg_ty Sm_ok 12 38 0 hx0 rfl (by decide)).2 h (fun v4 h => ?_)
        refine wr_callVi [.int v3, .int v4] [] (wg_da dt_X12_goesBy 93 rfl) ⟨wq_8_58, wq_8_60, wq_p7_0⟩ hx0 ⟨rfl, by decide⟩ wy_X12_canTry (fun q hq => m_X12_canTry l E x0 v3 v4 hx0 _ q hq) rfl rfl (Nat.le_of_ble_eq_true rfl) ⟨rfl, rfl, by decide, by decide⟩ h (fun v5 s6 h => ?_)
        refine wr_if_eq 164 (wg_da dt_X12_goesBy 94 rfl) (by decide) h (fun h => ?_) (fun h => ?_)
        · exact wr_wk [true, true, false] (g_X12_goesBy_164 l E (f_X12_goesBy_95  n) x0 x1 s6 _ hx0 (fun x0 x1 σ hx0 h => ih x0 x1 σ hx0 h) h)
        · refine wr_aload_n (wg_da dt_X12_goesBy 95 rfl) rfl ?_
          refine wr_aload_n (wg_da dt_X12_goesBy 96 rfl) rfl ?_
          refine wr_getR wf_X12_68 (wg_da dt_X12_goesBy 97 rfl) hx0 ?_
          refine wr_iload_n (wg_da dt_X12_goesBy 98 rfl) rfl ?_
          refine wr_iconst (1 : Int32) (wg_da dt_X12_goesBy 99 rfl) (by decide) ?_
          refine wr_iadd (wg_da dt_X12_goesBy 100 rfl) ?_
          refine wr_iald (wg_da dt_X12_goesBy 101 rfl) (wg_ty Sm_ok 12 38 0 hx0 rfl (by decide)).2 h (fun v7 h => ?_)
          refine wr_aload_n (wg_da dt_X12_goesBy 102 rfl) rfl ?_
          refine wr_getR wf_X12_68 (wg_da dt_X12_goesBy 103 rfl) hx0 ?_
          refine wr_iload_n (wg_da dt_X12_goesBy 104 rfl) rfl ?_
          refine wr_iconst (2 : Int32) (wg_da dt_X12_goesBy 105 rfl) (by decide) ?_
          refine wr_iadd (wg_da dt_X12_goesBy 106 rfl) ?_
          refine wr_iald (wg_da dt_X12_goesBy 107 rfl) (wg_ty Sm_ok 12 38 0 hx0 rfl (by decide)).2 h (fun v8 h => ?_)
          refine wr_callVi [.int v7, .int v8] [] (wg_da dt_X12_goesBy 108 rfl) ⟨wq_8_70, wq_8_72, wq_p7_3⟩ hx0 ⟨rfl, by decide⟩ wy_X12_judgesCase (fun q hq => m_X12_judgesCase l E x0 v7 v8 hx0 _ q hq) rfl rfl (Nat.le_of_ble_eq_true rfl) ⟨rfl, rfl, by decide, by decide⟩ h (fun v9 s10 h => ?_)
          refine wr_pop (wg_da dt_X12_goesBy 109 rfl) ?_
          exact wr_wk [true, true, false] (g_X12_goesBy_164 l E (f_X12_goesBy_95  n) x0 x1 s10 _ hx0 (fun x0 x1 σ hx0 h => ih x0 x1 σ hx0 h) h)
      · exact wr_wk [true, true, false] (g_X12_goesBy_164 l E (f_X12_goesBy_95  n) x0 x1 σ _ hx0 (fun x0 x1 σ hx0 h => ih x0 x1 σ hx0 h) h)
set_option maxRecDepth 20000 in
theorem g_X12_goesBy_2 (l : Launch) (E : wg_E)  (z : Int32 × wg_M) : ∀ (n : Nat) (x0 : Nat) (x1 : Int32) (σ : wg_M) (hx0 : wg_t Sm x0 = 14) (h : f_X12_goesBy_2  n x0 x1 σ = some z), wg_G l E Sm "WornWigsModel" cX12_goesBy 3 (some .int) rm_X12_goesBy (some z.1) z.2 2 [some (.ref x0), some (.int x1), none] [] σ := by
  intro n
  induction n with
  | zero => intro x0 x1 σ hx0 h; cases h
  | succ n ih =>
    intro x0 x1 σ hx0 h
    refine wr_iload_n (wg_da dt_X12_goesBy 2 rfl) rfl ?_
    refine wr_iconst (4 : Int32) (wg_da dt_X12_goesBy 3 rfl) (by decide) ?_
    refine wr_aload_n (wg_da dt_X12_goesBy 4 rfl) rfl ?_
    refine wr_getI wf_X12_312 (wg_da dt_X12_goesBy 5 rfl) hx0 ?_
    refine wr_imul (wg_da dt_X12_goesBy 6 rfl) ?_
    refine wr_icmp_ge 93 (wg_da dt_X12_goesBy 7 rfl) (by decide) h (fun h => ?_) (fun h => ?_)
    · refine wr_iconst (0 : Int32) (wg_da dt_X12_goesBy 63 rfl) (by decide) ?_
      refine wr_istore_n (wg_da dt_X12_goesBy 64 rfl) (by decide) ?_
      exact wr_wk [true, true, false] (g_X12_goesBy_95 l E  _  wg_N x0 (0 : Int32) σ hx0 h)
    · refine wr_aload_n (wg_da dt_X12_goesBy 8 rfl) rfl ?_
      refine wr_getR wf_X12_71 (wg_da dt_X12_goesBy 9 rfl) hx0 ?_
      refine wr_iload_n (wg_da dt_X12_goesBy 10 rfl) rfl ?_
      refine wr_iald (wg_da dt_X12_goesBy 11 rfl) (wg_ty Sm_ok 12 40 0 hx0 rfl (by decide)).2 h (fun v1 h => ?_)
      refine wr_aload_n (wg_da dt_X12_goesBy 12 rfl) rfl ?_
      refine wr_getR wf_X12_7 (wg_da dt_X12_goesBy 13 rfl) hx0 ?_
      refine wr_iconst (0 : Int32) (wg_da dt_X12_goesBy 14 rfl) (by decide) ?_
      refine wr_iald (wg_da dt_X12_goesBy 15 rfl) (wg_ty Sm_ok 12 1 0 hx0 rfl (by decide)).2 h (fun v2 h => ?_)
      refine wr_icmp_ne 86 (wg_da dt_X12_goesBy 16 rfl) (by decide) h (fun h => ?_) (fun h => ?_)
      · refine wr_aload_n (wg_da dt_X12_goesBy 17 rfl) rfl ?_
        refine wr_aload_n (wg_da dt_X12_goesBy 18 rfl) rfl ?_
        refine wr_getR wf_X12_71 (wg_da dt_X12_goesBy 19 rfl) hx0 ?_
        refine wr_iload_n (wg_da dt_X12_goesBy 20 rfl) rfl ?_
        refine wr_iconst (1 : Int32) (wg_da dt_X12_goesBy 21 rfl) (by decide) ?_
        refine wr_iadd (wg_da dt_X12_goesBy 22 rfl) ?_
        refine wr_iald (wg_da dt_X12_goesBy 23 rfl) (wg_ty Sm_ok 12 40 0 hx0 rfl (by decide)).2 h (fun v3 h => ?_)
        refine wr_aload_n (wg_da dt_X12_goesBy 24 rfl) rfl ?_
        refine wr_getR wf_X12_71 (wg_da dt_X12_goesBy 25 rfl) hx0 ?_
        refine wr_iload_n (wg_da dt_X12_goesBy 26 rfl) rfl ?_
        refine wr_iconst (2 : Int32) (wg_da dt_X12_goesBy 27 rfl) (by decide) ?_
        refine wr_iadd (wg_da dt_X12_goesBy 28 rfl) ?_
        refine wr_iald (wg_da dt_X12_goesBy 29 rfl) (wg_ty Sm_ok 12 40 0 hx0 rfl (by decide)).2 h (fun v4 h => ?_)
        refine wr_aload_n (wg_da dt_X12_goesBy 30 rfl) rfl ?_
        refine wr_getR wf_X12_71 (wg_da dt_X12_goesBy 31 rfl) hx0 ?_
        refine wr_iload_n (wg_da dt_X12_goesBy 32 rfl) rfl ?_
        refine wr_iconst (3 : Int32) (wg_da dt_X12_goesBy 33 rfl) (by decide) ?_
        refine wr_iadd (wg_da dt_X12_goesBy 34 rfl) ?_
        refine wr_iald (wg_da dt_X12_goesBy 35 rfl) (wg_ty Sm_ok 12 40 0 hx0 rfl (by decide)).2 h (fun v5 h => ?_)
        refine wr_callVi [.int v3, .int v4, .int v5] [] (wg_da dt_X12_goesBy 36 rfl) ⟨wq_8_134, wq_8_136, wq_p8_2⟩ hx0 ⟨rfl, by decide⟩ wy_X12_canAct (fun q hq => m_X12_canAct l E x0 v3 v4 v5 hx0 _ q hq) rfl rfl (Nat.le_of_ble_eq_true rfl) ⟨rfl, rfl, by decide, by decide⟩ h (fun v6 s7 h => ?_)
        refine wr_if_eq 86 (wg_da dt_X12_goesBy 37 rfl) (by decide) h (fun h => ?_) (fun h => ?_)
        · exact wr_wk [true, true, false] (g_X12_goesBy_86 l E (f_X12_goesBy_2  n) x0 x1 s7 _ hx0 (fun x0 x1 σ hx0 h => ih x0 x1 σ hx0 h) h)
        · refine wr_aload_n (wg_da dt_X12_goesBy 38 rfl) rfl ?_
          refine wr_aload_n (wg_da dt_X12_goesBy 39 rfl) rfl ?_
          refine wr_getR wf_X12_71 (wg_da dt_X12_goesBy 40 rfl) hx0 ?_
          refine wr_iload_n (wg_da dt_X12_goesBy 41 rfl) rfl ?_
          refine wr_iconst (1 : Int32) (wg_da dt_X12_goesBy 42 rfl) (by decide) ?_
          refine wr_iadd (wg_da dt_X12_goesBy 43 rfl) ?_
          refine wr_iald (wg_da dt_X12_goesBy 44 rfl) (wg_ty Sm_ok 12 40 0 hx0 rfl (by decide)).2 h (fun v8 h => ?_)
          refine wr_aload_n (wg_da dt_X12_goesBy 45 rfl) rfl ?_
          refine wr_getR wf_X12_71 (wg_da dt_X12_goesBy 46 rfl) hx0 ?_
          refine wr_iload_n (wg_da dt_X12_goesBy 47 rfl) rfl ?_
          refine wr_iconst (2 : Int32) (wg_da dt_X12_goesBy 48 rfl) (by decide) ?_
          refine wr_iadd (wg_da dt_X12_goesBy 49 rfl) ?_
          refine wr_iald (wg_da dt_X12_goesBy 50 rfl) (wg_ty Sm_ok 12 40 0 hx0 rfl (by decide)).2 h (fun v9 h => ?_)
          refine wr_aload_n (wg_da dt_X12_goesBy 51 rfl) rfl ?_
          refine wr_getR wf_X12_71 (wg_da dt_X12_goesBy 52 rfl) hx0 ?_
          refine wr_iload_n (wg_da dt_X12_goesBy 53 rfl) rfl ?_
          refine wr_iconst (3 : Int32) (wg_da dt_X12_goesBy 54 rfl) (by decide) ?_
          refine wr_iadd (wg_da dt_X12_goesBy 55 rfl) ?_
          refine wr_iald (wg_da dt_X12_goesBy 56 rfl) (wg_ty Sm_ok 12 40 0 hx0 rfl (by decide)).2 h (fun v10 h => ?_)
          refine wr_callVv [.int v8, .int v9, .int v10] [] (wg_da dt_X12_goesBy 57 rfl) ⟨wq_8_146, wq_8_148, wq_p8_5⟩ hx0 ⟨rfl, by decide⟩ wy_X12_acts (fun q hq => m_X12_acts l E x0 v8 v9 v10 hx0 _ q hq) rfl rfl (Nat.le_of_ble_eq_true rfl) ⟨rfl, rfl, by decide, by decide⟩ h (fun _ s11 h => ?_)
          exact wr_wk [true, true, false] (g_X12_goesBy_86 l E (f_X12_goesBy_2  n) x0 x1 s11 _ hx0 (fun x0 x1 σ hx0 h => ih x0 x1 σ hx0 h) h)
      · exact wr_wk [true, true, false] (g_X12_goesBy_86 l E (f_X12_goesBy_2  n) x0 x1 σ _ hx0 (fun x0 x1 σ hx0 h => ih x0 x1 σ hx0 h) h)
set_option maxRecDepth 20000 in
theorem g_X12_goesBy_e (l : Launch) (E : wg_E)  (x0 : Nat) (σ : wg_M) (z : Int32 × wg_M) (hx0 : wg_t Sm x0 = 14) (h : f_X12_goesBy  x0 σ = some z) : wg_G l E Sm "WornWigsModel" cX12_goesBy 3 (some .int) rm_X12_goesBy (some z.1) z.2 0 [some (.ref x0), none, none] [] σ := by
  refine wr_iconst (0 : Int32) (wg_da dt_X12_goesBy 0 rfl) (by decide) ?_
  refine wr_istore_n (wg_da dt_X12_goesBy 1 rfl) (by decide) ?_
  exact wr_wk [true, true, false] (g_X12_goesBy_2 l E  _  wg_N x0 (0 : Int32) σ hx0 h)
theorem m_X12_goesBy (l : Launch) (E : wg_E) (x0 : Nat) (hx0 : wg_t Sm x0 = 14) (σ : wg_M) (q : Int32 × wg_M) (h : f_X12_goesBy x0 σ = some q) : wg_MG l E Sm yX12_goesBy cX12_goesBy 3 (some .int) rm_X12_goesBy [.ref x0] σ (some q.1) q.2 :=
  wg_met [.ref x0] (plainFor_of_name (by decide)) (Nat.le_of_ble_eq_true rfl) (g_X12_goesBy_e l E x0 σ q hx0 h)
abbrev rm_X12_years : Room := { frames := 8, cells := 0, slots := 0, locals := 188 }
def tb_X12_years : List (Nat × Instr × Nat) := [(0, .aload_n 0, 1), (1, .iconst 0, 1), (2, .putfield 113, 3), (5, .aload_n 0, 1), (6, .iload_n 1, 1), (7, .iconst 1, 1), (8, .bipush 60, 2), (10, .invokevirtual 153, 3), (13, .ifCond .eq 17, 3), (16, .aload_n 0, 1), (17, .getfield 7, 3), (20, .iconst 0, 1), (21, .iaload, 1), (22, .iload_n 1, 1), (23, .iadd, 1), (24, .sipush 9999, 3), (27, .if_icmp .le 5, 3), (30, .iconst (-1), 1), (31, .ireturn, 1), (32, .iconst 0, 1), (33, .istore_n 2, 1), (34, .iconst 0, 1), (35, .istore_n 3, 1), (36, .iload_n 3, 1), (37, .iload_n 1, 1), (38, .if_icmp .ge 20, 3), (41, .aload_n 0, 1), (42, .invokevirtual 374, 3), (45, .iload_n 2, 1), (46, .aload_n 0, 1), (47, .invokevirtual 425, 3), (50, .iadd, 1), (51, .istore_n 2, 1), (52, .iinc 3 1, 3), (55, .goto (-19), 3), (58, .iload_n 2, 1), (59, .ireturn, 1)]
theorem dt_X12_years : wg_dc cX12_years tb_X12_years := by unfold wg_dc; decide +kernel
def f_X12_years_36  : Nat → Nat → Int32 → Int32 → Int32 → wg_M → Option (Int32 × wg_M)
  | 0, _, _, _, _, _ => none
  | n + 1, x0, x1, x2, x3, σ => if x1 ≤ x3 then (some (x2, σ)) else (wg_bd (f_X12_keepsAhead x0 σ) (fun _ s1 => wg_bd (f_X12_goesBy x0 s1) (fun v2 s3 => wg_let (x2 + v2) (fun v4 => wg_let (x3 + (1 : Int32)) (fun v5 => f_X12_years_36  n x0 x1 v4 v5 s3)))))
def f_X12_years  (x0 : Nat) (x1 : Int32) (σ : wg_M) : Option (Int32 × wg_M) := wg_st σ x0 0 (0 : Int32) (fun s1 => wg_bd (f_X12_isIn x0 x1 (1 : Int32) (60 : Int32) s1) (fun v2 s3 => if v2 = 0 then (some ((-1 : Int32), s3)) else (wg_ga (wg_n Sm (wg_r Sm x0 1)) (s3 (wg_r Sm x0 1)) (0 : Int32) (fun v4 => if (v4 + x1) ≤ (9999 : Int32) then (f_X12_years_36  wg_N x0 x1 (0 : Int32) (0 : Int32) s3) else (some ((-1 : Int32), s3))))))
set_option maxRecDepth 20000 in
theorem g_X12_years_36 (l : Launch) (E : wg_E)  (z : Int32 × wg_M) : ∀ (n : Nat) (x0 : Nat) (x1 : Int32) (x2 : Int32) (x3 : Int32) (σ : wg_M) (hx0 : wg_t Sm x0 = 14) (h : f_X12_years_36  n x0 x1 x2 x3 σ = some z), wg_G l E Sm "WornWigsModel" cX12_years 4 (some .int) rm_X12_years (some z.1) z.2 36 [some (.ref x0), some (.int x1), some (.int x2), some (.int x3)] [] σ := by
  intro n
  induction n with
  | zero => intro x0 x1 x2 x3 σ hx0 h; cases h
  | succ n ih =>
    intro x0 x1 x2 x3 σ hx0 h
    refine wr_iload_n (wg_da dt_X12_years 23 rfl) rfl ?_
    refine wr_iload_n (wg_da dt_X12_years 24 rfl) rfl ?_
    refine wr_icmp_ge 58 (wg_da dt_X12_years 25 rfl) (by decide) h (fun h => ?_) (fun h => ?_)
    · refine wr_iload_n (wg_da dt_X12_years 35 rfl) rfl ?_
      exact wr_iret (wg_da dt_X12_years 36 rfl) h
    · refine wr_aload_n (wg_da dt_X12_years 26 rfl) rfl ?_
      refine wr_callVv [] [] (wg_da dt_X12_years 27 rfl) ⟨wq_8_66, wq_8_68, wq_p7_2⟩ hx0 ⟨rfl, by decide⟩ wy_X12_keepsAhead (fun q hq => m_X12_keepsAhead l E x0 hx0 _ q hq) rfl rfl (Nat.le_of_ble_eq_true rfl) ⟨rfl, rfl, by decide, by decide⟩ h (fun _ s1 h => ?_)
      refine wr_iload_n (wg_da dt_X12_years 28 rfl) rfl ?_
      refine wr_aload_n (wg_da dt_X12_years 29 rfl) rfl ?_
      refine wr_callVi [] [.int x2] (wg_da dt_X12_years 30 rfl) ⟨wq_8_170, wq_8_172, wq_p8_10⟩ hx0 ⟨rfl, by decide⟩ wy_X12_goesBy (fun q hq => m_X12_goesBy l E x0 hx0 _ q hq) rfl rfl (Nat.le_of_ble_eq_true rfl) ⟨rfl, rfl, by decide, by decide⟩ h (fun v2 s3 h => ?_)
      refine wr_iadd (wg_da dt_X12_years 31 rfl) ?_
      refine wr_let h (fun v4 h => ?_)
      refine wr_istore_n (wg_da dt_X12_years 32 rfl) (by decide) ?_
      refine wr_iinc (c0 := (1 : Int32)) (wg_da dt_X12_years 33 rfl) rfl (by decide) (by decide) h (fun v5 h => ?_)
      refine wr_goto 36 (wg_da dt_X12_years 34 rfl) (by decide) ?_
      exact wr_wk [true, true, true, true] (ih x0 x1 v4 v5 s3 hx0 h)
set_option maxRecDepth 20000 in
theorem g_X12_years_e (l : Launch) (E : wg_E)  (x0 : Nat) (x1 : Int32) (σ : wg_M) (z : Int32 × wg_M) (hx0 : wg_t Sm x0 = 14) (h : f_X12_years  x0 x1 σ = some z) : wg_G l E Sm "WornWigsModel" cX12_years 4 (some .int) rm_X12_years (some z.1) z.2 0 [some (.ref x0), some (.int x1), none, none] [] σ := by
  refine wr_aload_n (wg_da dt_X12_years 0 rfl) rfl ?_
  refine wr_iconst (0 : Int32) (wg_da dt_X12_years 1 rfl) (by decide) ?_
  refine wr_putI wfp_X12_113 (wg_da dt_X12_years 2 rfl) hx0 h (fun s1 h => ?_)
  refine wr_aload_n (wg_da dt_X12_years 3 rfl) rfl ?_
  refine wr_iload_n (wg_da dt_X12_years 4 rfl) rfl ?_
  refine wr_iconst (1 : Int32) (wg_da dt_X12_years 5 rfl) (by decide) ?_
  refine wr_bipush (60 : Int32) (wg_da dt_X12_years 6 rfl) (by decide) ?_
  refine wr_callVi [.int x1, .int (1 : Int32), .int (60 : Int32)] [] (wg_da dt_X12_years 7 rfl) ⟨wq_7_82, wq_7_84, wq_p4_3⟩ hx0 ⟨rfl, by decide⟩ wy_X12_isIn (fun q hq => m_X12_isIn l E x0 x1 (1 : Int32) (60 : Int32) hx0 _ q hq) rfl rfl (Nat.le_of_ble_eq_true rfl) ⟨rfl, rfl, by decide, by decide⟩ h (fun v2 s3 h => ?_)
  refine wr_if_eq 30 (wg_da dt_X12_years 8 rfl) (by decide) h (fun h => ?_) (fun h => ?_)
  · refine wr_iconst (-1 : Int32) (wg_da dt_X12_years 17 rfl) (by decide) ?_
    exact wr_iret (wg_da dt_X12_years 18 rfl) h
  · refine wr_aload_n (wg_da dt_X12_years 9 rfl) rfl ?_
    refine wr_getR wf_X12_7 (wg_da dt_X12_years 10 rfl) hx0 ?_
    refine wr_iconst (0 : Int32) (wg_da dt_X12_years 11 rfl) (by decide) ?_
    refine wr_iald (wg_da dt_X12_years 12 rfl) (wg_ty Sm_ok 12 1 0 hx0 rfl (by decide)).2 h (fun v4 h => ?_)
    refine wr_iload_n (wg_da dt_X12_years 13 rfl) rfl ?_
    refine wr_iadd (wg_da dt_X12_years 14 rfl) ?_
    refine wr_sipush (9999 : Int32) (wg_da dt_X12_years 15 rfl) (by decide) ?_
    refine wr_icmp_le 32 (wg_da dt_X12_years 16 rfl) (by decide) h (fun h => ?_) (fun h => ?_)
    · refine wr_iconst (0 : Int32) (wg_da dt_X12_years 19 rfl) (by decide) ?_
      refine wr_istore_n (wg_da dt_X12_years 20 rfl) (by decide) ?_
      refine wr_iconst (0 : Int32) (wg_da dt_X12_years 21 rfl) (by decide) ?_
      refine wr_istore_n (wg_da dt_X12_years 22 rfl) (by decide) ?_
      exact wr_wk [true, true, true, true] (g_X12_years_36 l E  _  wg_N x0 x1 (0 : Int32) (0 : Int32) s3 hx0 h)
    · refine wr_iconst (-1 : Int32) (wg_da dt_X12_years 17 rfl) (by decide) ?_
      exact wr_iret (wg_da dt_X12_years 18 rfl) h
theorem m_X12_years (l : Launch) (E : wg_E) (x0 : Nat) (x1 : Int32) (hx0 : wg_t Sm x0 = 14) (σ : wg_M) (q : Int32 × wg_M) (h : f_X12_years x0 x1 σ = some q) : wg_MG l E Sm yX12_years cX12_years 4 (some .int) rm_X12_years [.ref x0, .int x1] σ (some q.1) q.2 :=
  wg_met [.ref x0, .int x1] (plainFor_of_name (by decide)) (Nat.le_of_ble_eq_true rfl) (g_X12_years_e l E x0 x1 σ q hx0 h)
abbrev rm_X12_of : Room := { frames := 5, cells := 0, slots := 0, locals := 115 }
def tb_X12_of : List (Nat × Instr × Nat) := [(0, .aload_n 0, 1), (1, .iconst 0, 1), (2, .putfield 113, 3), (5, .aload_n 0, 1), (6, .iload_n 1, 1), (7, .invokevirtual 156, 3), (10, .ifCond .ne 6, 3), (13, .bipush (-2), 2), (15, .ireturn, 1), (16, .iload_n 2, 1), (17, .ifCond .ne 10, 3), (20, .aload_n 0, 1), (21, .getfield 19, 3), (24, .iload_n 1, 1), (25, .iaload, 1), (26, .ireturn, 1), (27, .iload_n 2, 1), (28, .iconst 1, 1), (29, .if_icmp .ne 13, 3), (32, .aload_n 0, 1), (33, .getfield 7, 3), (36, .bipush 43, 2), (38, .iload_n 1, 1), (39, .iadd, 1), (40, .iaload, 1), (41, .ireturn, 1), (42, .iload_n 2, 1), (43, .iconst 2, 1), (44, .if_icmp .ne 13, 3), (47, .aload_n 0, 1), (48, .getfield 7, 3), (51, .bipush 51, 2), (53, .iload_n 1, 1), (54, .iadd, 1), (55, .iaload, 1), (56, .ireturn, 1), (57, .iload_n 2, 1), (58, .iconst 3, 1), (59, .if_icmp .ne 13, 3), (62, .aload_n 0, 1), (63, .getfield 7, 3), (66, .bipush 59, 2), (68, .iload_n 1, 1), (69, .iadd, 1), (70, .iaload, 1), (71, .ireturn, 1), (72, .iload_n 2, 1), (73, .iconst 4, 1), (74, .if_icmp .ne 9, 3), (77, .aload_n 0, 1), (78, .iload_n 1, 1), (79, .invokevirtual 380, 3), (82, .ireturn, 1), (83, .iload_n 2, 1), (84, .iconst 5, 1), (85, .if_icmp .ne 15, 3), (88, .aload_n 0, 1), (89, .getfield 7, 3), (92, .bipush 67, 2), (94, .iload_n 1, 1), (95, .iadd, 1), (96, .iaload, 1), (97, .goto 19, 3), (100, .iload_n 2, 1), (101, .bipush 6, 2), (103, .if_icmp .ne 11, 3), (106, .aload_n 0, 1), (107, .iload_n 1, 1), (108, .invokevirtual 413, 3), (111, .goto 5, 3), (114, .bipush (-2), 2), (116, .ireturn, 1)]
theorem dt_X12_of : wg_dc cX12_of tb_X12_of := by unfold wg_dc; decide +kernel
def f_X12_of  (x0 : Nat) (x1 : Int32) (x2 : Int32) (σ : wg_M) : Option (Int32 × wg_M) := wg_st σ x0 0 (0 : Int32) (fun s1 => wg_bd (f_X12_isWig x0 x1 s1) (fun v2 s3 => if v2 = 0 then (some ((-2 : Int32), s3)) else (if x2 = 0 then (wg_ga (wg_n Sm (wg_r Sm x0 9)) (s3 (wg_r Sm x0 9)) x1 (fun v12 => some (v12, s3))) else (if x2 = (1 : Int32) then (wg_ga (wg_n Sm (wg_r Sm x0 1)) (s3 (wg_r Sm x0 1)) ((43 : Int32) + x1) (fun v11 => some (v11, s3))) else (if x2 = (2 : Int32) then (wg_ga (wg_n Sm (wg_r Sm x0 1)) (s3 (wg_r Sm x0 1)) ((51 : Int32) + x1) (fun v10 => some (v10, s3))) else (if x2 = (3 : Int32) then (wg_ga (wg_n Sm (wg_r Sm x0 1)) (s3 (wg_r Sm x0 1)) ((59 : Int32) + x1) (fun v9 => some (v9, s3))) else (if x2 = (4 : Int32) then (wg_bd (f_X12_wearerOf x0 x1 s3) (fun v7 s8 => some (v7, s8))) else (if x2 = (5 : Int32) then (wg_ga (wg_n Sm (wg_r Sm x0 1)) (s3 (wg_r Sm x0 1)) ((67 : Int32) + x1) (fun v6 => some (v6, s3))) else (if x2 = (6 : Int32) then (wg_bd (f_X12_mothOf x0 x1 s3) (fun v4 s5 => some (v4, s5))) else (some ((-2 : Int32), s3)))))))))))
set_option maxRecDepth 20000 in
theorem g_X12_of_e (l : Launch) (E : wg_E)  (x0 : Nat) (x1 : Int32) (x2 : Int32) (σ : wg_M) (z : Int32 × wg_M) (hx0 : wg_t Sm x0 = 14) (h : f_X12_of  x0 x1 x2 σ = some z) : wg_G l E Sm "WornWigsModel" cX12_of 3 (some .int) rm_X12_of (some z.1) z.2 0 [some (.ref x0), some (.int x1), some (.int x2)] [] σ := by
  refine wr_aload_n (wg_da dt_X12_of 0 rfl) rfl ?_
  refine wr_iconst (0 : Int32) (wg_da dt_X12_of 1 rfl) (by decide) ?_
  refine wr_putI wfp_X12_113 (wg_da dt_X12_of 2 rfl) hx0 h (fun s1 h => ?_)
  refine wr_aload_n (wg_da dt_X12_of 3 rfl) rfl ?_
  refine wr_iload_n (wg_da dt_X12_of 4 rfl) rfl ?_
  refine wr_callVi [.int x1] [] (wg_da dt_X12_of 5 rfl) ⟨wq_7_98, wq_7_100, wq_p4_4⟩ hx0 ⟨rfl, by decide⟩ wy_X12_isWig (fun q hq => m_X12_isWig l E x0 x1 hx0 _ q hq) rfl rfl (Nat.le_of_ble_eq_true rfl) ⟨rfl, rfl, by decide, by decide⟩ h (fun v2 s3 h => ?_)
  refine wr_if_ne 16 (wg_da dt_X12_of 6 rfl) (by decide) h (fun h => ?_) (fun h => ?_)
  · refine wr_bipush (-2 : Int32) (wg_da dt_X12_of 7 rfl) (by decide) ?_
    exact wr_iret (wg_da dt_X12_of 8 rfl) h
  · refine wr_iload_n (wg_da dt_X12_of 9 rfl) rfl ?_
    refine wr_if_ne 27 (wg_da dt_X12_of 10 rfl) (by decide) h (fun h => ?_) (fun h => ?_)
    · refine wr_aload_n (wg_da dt_X12_of 11 rfl) rfl ?_
      refine wr_getR wf_X12_19 (wg_da dt_X12_of 12 rfl) hx0 ?_
      refine wr_iload_n (wg_da dt_X12_of 13 rfl) rfl ?_
      refine wr_iald (wg_da dt_X12_of 14 rfl) (wg_ty Sm_ok 12 9 0 hx0 rfl (by decide)).2 h (fun v12 h => ?_)
      exact wr_iret (wg_da dt_X12_of 15 rfl) h
    · refine wr_iload_n (wg_da dt_X12_of 16 rfl) rfl ?_
      refine wr_iconst (1 : Int32) (wg_da dt_X12_of 17 rfl) (by decide) ?_
      refine wr_icmp_ne 42 (wg_da dt_X12_of 18 rfl) (by decide) h (fun h => ?_) (fun h => ?_)
      · refine wr_aload_n (wg_da dt_X12_of 19 rfl) rfl ?_
        refine wr_getR wf_X12_7 (wg_da dt_X12_of 20 rfl) hx0 ?_
        refine wr_bipush (43 : Int32) (wg_da dt_X12_of 21 rfl) (by decide) ?_
        refine wr_iload_n (wg_da dt_X12_of 22 rfl) rfl ?_
        refine wr_iadd (wg_da dt_X12_of 23 rfl) ?_
        refine wr_iald (wg_da dt_X12_of 24 rfl) (wg_ty Sm_ok 12 1 0 hx0 rfl (by decide)).2 h (fun v11 h => ?_)
        exact wr_iret (wg_da dt_X12_of 25 rfl) h
      · refine wr_iload_n (wg_da dt_X12_of 26 rfl) rfl ?_
        refine wr_iconst (2 : Int32) (wg_da dt_X12_of 27 rfl) (by decide) ?_
        refine wr_icmp_ne 57 (wg_da dt_X12_of 28 rfl) (by decide) h (fun h => ?_) (fun h => ?_)
        · refine wr_aload_n (wg_da dt_X12_of 29 rfl) rfl ?_
          refine wr_getR wf_X12_7 (wg_da dt_X12_of 30 rfl) hx0 ?_
          refine wr_bipush (51 : Int32) (wg_da dt_X12_of 31 rfl) (by decide) ?_
          refine wr_iload_n (wg_da dt_X12_of 32 rfl) rfl ?_
          refine wr_iadd (wg_da dt_X12_of 33 rfl) ?_
          refine wr_iald (wg_da dt_X12_of 34 rfl) (wg_ty Sm_ok 12 1 0 hx0 rfl (by decide)).2 h (fun v10 h => ?_)
          exact wr_iret (wg_da dt_X12_of 35 rfl) h
        · refine wr_iload_n (wg_da dt_X12_of 36 rfl) rfl ?_
          refine wr_iconst (3 : Int32) (wg_da dt_X12_of 37 rfl) (by decide) ?_
          refine wr_icmp_ne 72 (wg_da dt_X12_of 38 rfl) (by decide) h (fun h => ?_) (fun h => ?_)
          · refine wr_aload_n (wg_da dt_X12_of 39 rfl) rfl ?_
            refine wr_getR wf_X12_7 (wg_da dt_X12_of 40 rfl) hx0 ?_
            refine wr_bipush (59 : Int32) (wg_da dt_X12_of 41 rfl) (by decide) ?_
            refine wr_iload_n (wg_da dt_X12_of 42 rfl) rfl ?_
            refine wr_iadd (wg_da dt_X12_of 43 rfl) ?_
            refine wr_iald (wg_da dt_X12_of 44 rfl) (wg_ty Sm_ok 12 1 0 hx0 rfl (by decide)).2 h (fun v9 h => ?_)
            exact wr_iret (wg_da dt_X12_of 45 rfl) h
          · refine wr_iload_n (wg_da dt_X12_of 46 rfl) rfl ?_
            refine wr_iconst (4 : Int32) (wg_da dt_X12_of 47 rfl) (by decide) ?_
            refine wr_icmp_ne 83 (wg_da dt_X12_of 48 rfl) (by decide) h (fun h => ?_) (fun h => ?_)
            · refine wr_aload_n (wg_da dt_X12_of 49 rfl) rfl ?_
              refine wr_iload_n (wg_da dt_X12_of 50 rfl) rfl ?_
              refine wr_callVi [.int x1] [] (wg_da dt_X12_of 51 rfl) ⟨wq_8_138, wq_8_140, wq_p8_3⟩ hx0 ⟨rfl, by decide⟩ wy_X12_wearerOf (fun q hq => m_X12_wearerOf l E x0 x1 hx0 _ q hq) rfl rfl (Nat.le_of_ble_eq_true rfl) ⟨rfl, rfl, by decide, by decide⟩ h (fun v7 s8 h => ?_)
              exact wr_iret (wg_da dt_X12_of 52 rfl) h
            · refine wr_iload_n (wg_da dt_X12_of 53 rfl) rfl ?_
              refine wr_iconst (5 : Int32) (wg_da dt_X12_of 54 rfl) (by decide) ?_
              refine wr_icmp_ne 100 (wg_da dt_X12_of 55 rfl) (by decide) h (fun h => ?_) (fun h => ?_)
              · refine wr_aload_n (wg_da dt_X12_of 56 rfl) rfl ?_
                refine wr_getR wf_X12_7 (wg_da dt_X12_of 57 rfl) hx0 ?_
                refine wr_bipush (67 : Int32) (wg_da dt_X12_of 58 rfl) (by decide) ?_
                refine wr_iload_n (wg_da dt_X12_of 59 rfl) rfl ?_
                refine wr_iadd (wg_da dt_X12_of 60 rfl) ?_
                refine wr_iald (wg_da dt_X12_of 61 rfl) (wg_ty Sm_ok 12 1 0 hx0 rfl (by decide)).2 h (fun v6 h => ?_)
                refine wr_goto 116 (wg_da dt_X12_of 62 rfl) (by decide) ?_
                exact wr_iret (wg_da dt_X12_of 71 rfl) h
              · refine wr_iload_n (wg_da dt_X12_of 63 rfl) rfl ?_
                refine wr_bipush (6 : Int32) (wg_da dt_X12_of 64 rfl) (by decide) ?_
                refine wr_icmp_ne 114 (wg_da dt_X12_of 65 rfl) (by decide) h (fun h => ?_) (fun h => ?_)
                · refine wr_aload_n (wg_da dt_X12_of 66 rfl) rfl ?_
                  refine wr_iload_n (wg_da dt_X12_of 67 rfl) rfl ?_
                  refine wr_callVi [.int x1] [] (wg_da dt_X12_of 68 rfl) ⟨wq_8_200, wq_8_202, wq_p9_1⟩ hx0 ⟨rfl, by decide⟩ wy_X12_mothOf (fun q hq => m_X12_mothOf l E x0 x1 hx0 _ q hq) rfl rfl (Nat.le_of_ble_eq_true rfl) ⟨rfl, rfl, by decide, by decide⟩ h (fun v4 s5 h => ?_)
                  refine wr_goto 116 (wg_da dt_X12_of 69 rfl) (by decide) ?_
                  exact wr_iret (wg_da dt_X12_of 71 rfl) h
                · refine wr_bipush (-2 : Int32) (wg_da dt_X12_of 70 rfl) (by decide) ?_
                  exact wr_iret (wg_da dt_X12_of 71 rfl) h
theorem m_X12_of (l : Launch) (E : wg_E) (x0 : Nat) (x1 : Int32) (x2 : Int32) (hx0 : wg_t Sm x0 = 14) (σ : wg_M) (q : Int32 × wg_M) (h : f_X12_of x0 x1 x2 σ = some q) : wg_MG l E Sm yX12_of cX12_of 3 (some .int) rm_X12_of [.ref x0, .int x1, .int x2] σ (some q.1) q.2 :=
  wg_met [.ref x0, .int x1, .int x2] (plainFor_of_name (by decide)) (Nat.le_of_ble_eq_true rfl) (g_X12_of_e l E x0 x1 x2 σ q hx0 h)
abbrev rm_X12_ruleOf : Room := { frames := 5, cells := 0, slots := 0, locals := 117 }
def tb_X12_ruleOf : List (Nat × Instr × Nat) := [(0, .aload_n 0, 1), (1, .iconst 0, 1), (2, .putfield 113, 3), (5, .aload_n 0, 1), (6, .iload_n 1, 1), (7, .invokevirtual 156, 3), (10, .ifCond .eq 23, 3), (13, .aload_n 0, 1), (14, .iload_n 2, 1), (15, .iconst 0, 1), (16, .aload_n 0, 1), (17, .getfield 7, 3), (20, .bipush 67, 2), (22, .iload_n 1, 1), (23, .iadd, 1), (24, .iaload, 1), (25, .iconst 1, 1), (26, .isub, 1), (27, .invokevirtual 153, 3), (30, .ifCond .ne 6, 3), (33, .bipush (-100), 2), (35, .ireturn, 1), (36, .aload_n 0, 1), (37, .iload_n 3, 1), (38, .bipush 10, 2), (40, .bipush 9, 2), (42, .aload_n 0, 1), (43, .getfield 128, 3), (46, .iadd, 1), (47, .invokevirtual 153, 3), (50, .ifCond .eq 14, 3), (53, .aload_n 0, 1), (54, .iload_n 1, 1), (55, .iload_n 2, 1), (56, .iload_n 3, 1), (57, .bipush 10, 2), (59, .isub, 1), (60, .invokevirtual 348, 3), (63, .ireturn, 1), (64, .aload_n 0, 1), (65, .iload_n 3, 1), (66, .iconst 0, 1), (67, .iconst 2, 1), (68, .invokevirtual 153, 3), (71, .ifCond .eq 19, 3), (74, .aload_n 0, 1), (75, .getfield 7, 3), (78, .aload_n 0, 1), (79, .iload_n 1, 1), (80, .iload_n 2, 1), (81, .invokevirtual 138, 3), (84, .iload_n 3, 1), (85, .iadd, 1), (86, .iaload, 1), (87, .goto 5, 3), (90, .bipush (-100), 2), (92, .ireturn, 1)]
theorem dt_X12_ruleOf : wg_dc cX12_ruleOf tb_X12_ruleOf := by unfold wg_dc; decide +kernel
def f_X12_ruleOf  (x0 : Nat) (x1 : Int32) (x2 : Int32) (x3 : Int32) (σ : wg_M) : Option (Int32 × wg_M) := wg_st σ x0 0 (0 : Int32) (fun s1 => wg_bd (f_X12_isWig x0 x1 s1) (fun v2 s3 => if v2 = 0 then (some ((-100 : Int32), s3)) else (wg_ga (wg_n Sm (wg_r Sm x0 1)) (s3 (wg_r Sm x0 1)) ((67 : Int32) + x1) (fun v4 => wg_bd (f_X12_isIn x0 x2 (0 : Int32) (v4 - (1 : Int32)) s3) (fun v5 s6 => if v5 = 0 then (some ((-100 : Int32), s6)) else (wg_bd (f_X12_isIn x0 x3 (10 : Int32) ((9 : Int32) + (s6 x0 7)) s6) (fun v7 s8 => if v7 = 0 then (wg_bd (f_X12_isIn x0 x3 (0 : Int32) (2 : Int32) s8) (fun v9 s10 => if v9 = 0 then (some ((-100 : Int32), s10)) else (wg_bd (f_X12_ruleAt x0 x1 x2 s10) (fun v11 s12 => wg_ga (wg_n Sm (wg_r Sm x0 1)) (s12 (wg_r Sm x0 1)) (v11 + x3) (fun v13 => some (v13, s12)))))) else (wg_bd (f_X12_countsOf x0 x1 x2 (x3 - (10 : Int32)) s8) (fun v14 s15 => some (v14, s15))))))))))
set_option maxRecDepth 20000 in
theorem g_X12_ruleOf_e (l : Launch) (E : wg_E)  (x0 : Nat) (x1 : Int32) (x2 : Int32) (x3 : Int32) (σ : wg_M) (z : Int32 × wg_M) (hx0 : wg_t Sm x0 = 14) (h : f_X12_ruleOf  x0 x1 x2 x3 σ = some z) : wg_G l E Sm "WornWigsModel" cX12_ruleOf 4 (some .int) rm_X12_ruleOf (some z.1) z.2 0 [some (.ref x0), some (.int x1), some (.int x2), some (.int x3)] [] σ := by
  refine wr_aload_n (wg_da dt_X12_ruleOf 0 rfl) rfl ?_
  refine wr_iconst (0 : Int32) (wg_da dt_X12_ruleOf 1 rfl) (by decide) ?_
  refine wr_putI wfp_X12_113 (wg_da dt_X12_ruleOf 2 rfl) hx0 h (fun s1 h => ?_)
  refine wr_aload_n (wg_da dt_X12_ruleOf 3 rfl) rfl ?_
  refine wr_iload_n (wg_da dt_X12_ruleOf 4 rfl) rfl ?_
  refine wr_callVi [.int x1] [] (wg_da dt_X12_ruleOf 5 rfl) ⟨wq_7_98, wq_7_100, wq_p4_4⟩ hx0 ⟨rfl, by decide⟩ wy_X12_isWig (fun q hq => m_X12_isWig l E x0 x1 hx0 _ q hq) rfl rfl (Nat.le_of_ble_eq_true rfl) ⟨rfl, rfl, by decide, by decide⟩ h (fun v2 s3 h => ?_)
  refine wr_if_eq 33 (wg_da dt_X12_ruleOf 6 rfl) (by decide) h (fun h => ?_) (fun h => ?_)
  · refine wr_bipush (-100 : Int32) (wg_da dt_X12_ruleOf 20 rfl) (by decide) ?_
    exact wr_iret (wg_da dt_X12_ruleOf 21 rfl) h
  · refine wr_aload_n (wg_da dt_X12_ruleOf 7 rfl) rfl ?_
    refine wr_iload_n (wg_da dt_X12_ruleOf 8 rfl) rfl ?_
    refine wr_iconst (0 : Int32) (wg_da dt_X12_ruleOf 9 rfl) (by decide) ?_
    refine wr_aload_n (wg_da dt_X12_ruleOf 10 rfl) rfl ?_
    refine wr_getR wf_X12_7 (wg_da dt_X12_ruleOf 11 rfl) hx0 ?_
    refine wr_bipush (67 : Int32) (wg_da dt_X12_ruleOf 12 rfl) (by decide) ?_
    refine wr_iload_n (wg_da dt_X12_ruleOf 13 rfl) rfl ?_
    refine wr_iadd (wg_da dt_X12_ruleOf 14 rfl) ?_
    refine wr_iald (wg_da dt_X12_ruleOf 15 rfl) (wg_ty Sm_ok 12 1 0 hx0 rfl (by decide)).2 h (fun v4 h => ?_)
    refine wr_iconst (1 : Int32) (wg_da dt_X12_ruleOf 16 rfl) (by decide) ?_
    refine wr_isub (wg_da dt_X12_ruleOf 17 rfl) ?_
    refine wr_callVi [.int x2, .int (0 : Int32), .int (v4 - (1 : Int32))] [] (wg_da dt_X12_ruleOf 18 rfl) ⟨wq_7_82, wq_7_84, wq_p4_3⟩ hx0 ⟨rfl, by decide⟩ wy_X12_isIn (fun q hq => m_X12_isIn l E x0 x2 (0 : Int32) (v4 - (1 : Int32)) hx0 _ q hq) rfl rfl (Nat.le_of_ble_eq_true rfl) ⟨rfl, rfl, by decide, by decide⟩ h (fun v5 s6 h => ?_)
    refine wr_if_ne 36 (wg_da dt_X12_ruleOf 19 rfl) (by decide) h (fun h => ?_) (fun h => ?_)
    · refine wr_bipush (-100 : Int32) (wg_da dt_X12_ruleOf 20 rfl) (by decide) ?_
      exact wr_iret (wg_da dt_X12_ruleOf 21 rfl) h
    · refine wr_aload_n (wg_da dt_X12_ruleOf 22 rfl) rfl ?_
      refine wr_iload_n (wg_da dt_X12_ruleOf 23 rfl) rfl ?_
      refine wr_bipush (10 : Int32) (wg_da dt_X12_ruleOf 24 rfl) (by decide) ?_
      refine wr_bipush (9 : Int32) (wg_da dt_X12_ruleOf 25 rfl) (by decide) ?_
      refine wr_aload_n (wg_da dt_X12_ruleOf 26 rfl) rfl ?_
      refine wr_getI wf_X12_128 (wg_da dt_X12_ruleOf 27 rfl) hx0 ?_
      refine wr_iadd (wg_da dt_X12_ruleOf 28 rfl) ?_
      refine wr_callVi [.int x3, .int (10 : Int32), .int ((9 : Int32) + (s6 x0 7))] [] (wg_da dt_X12_ruleOf 29 rfl) ⟨wq_7_82, wq_7_84, wq_p4_3⟩ hx0 ⟨rfl, by decide⟩ wy_X12_isIn (fun q hq => m_X12_isIn l E x0 x3 (10 : Int32) ((9 : Int32) + (s6 x0 7)) hx0 _ q hq) rfl rfl (Nat.le_of_ble_eq_true rfl) ⟨rfl, rfl, by decide, by decide⟩ h (fun v7 s8 h => ?_)
      refine wr_if_eq 64 (wg_da dt_X12_ruleOf 30 rfl) (by decide) h (fun h => ?_) (fun h => ?_)
      · refine wr_aload_n (wg_da dt_X12_ruleOf 39 rfl) rfl ?_
        refine wr_iload_n (wg_da dt_X12_ruleOf 40 rfl) rfl ?_
        refine wr_iconst (0 : Int32) (wg_da dt_X12_ruleOf 41 rfl) (by decide) ?_
        refine wr_iconst (2 : Int32) (wg_da dt_X12_ruleOf 42 rfl) (by decide) ?_
        refine wr_callVi [.int x3, .int (0 : Int32), .int (2 : Int32)] [] (wg_da dt_X12_ruleOf 43 rfl) ⟨wq_7_82, wq_7_84, wq_p4_3⟩ hx0 ⟨rfl, by decide⟩ wy_X12_isIn (fun q hq => m_X12_isIn l E x0 x3 (0 : Int32) (2 : Int32) hx0 _ q hq) rfl rfl (Nat.le_of_ble_eq_true rfl) ⟨rfl, rfl, by decide, by decide⟩ h (fun v9 s10 h => ?_)
        refine wr_if_eq 90 (wg_da dt_X12_ruleOf 44 rfl) (by decide) h (fun h => ?_) (fun h => ?_)
        · refine wr_bipush (-100 : Int32) (wg_da dt_X12_ruleOf 55 rfl) (by decide) ?_
          exact wr_iret (wg_da dt_X12_ruleOf 56 rfl) h
        · refine wr_aload_n (wg_da dt_X12_ruleOf 45 rfl) rfl ?_
          refine wr_getR wf_X12_7 (wg_da dt_X12_ruleOf 46 rfl) hx0 ?_
          refine wr_aload_n (wg_da dt_X12_ruleOf 47 rfl) rfl ?_
          refine wr_iload_n (wg_da dt_X12_ruleOf 48 rfl) rfl ?_
          refine wr_iload_n (wg_da dt_X12_ruleOf 49 rfl) rfl ?_
          refine wr_callVi [.int x1, .int x2] [.ref (wg_r Sm x0 1)] (wg_da dt_X12_ruleOf 50 rfl) ⟨wq_7_106, wq_7_108, wq_p4_6⟩ hx0 ⟨rfl, by decide⟩ wy_X12_ruleAt (fun q hq => m_X12_ruleAt l E x0 x1 x2 hx0 _ q hq) rfl rfl (Nat.le_of_ble_eq_true rfl) ⟨rfl, rfl, by decide, by decide⟩ h (fun v11 s12 h => ?_)
          refine wr_iload_n (wg_da dt_X12_ruleOf 51 rfl) rfl ?_
          refine wr_iadd (wg_da dt_X12_ruleOf 52 rfl) ?_
          refine wr_iald (wg_da dt_X12_ruleOf 53 rfl) (wg_ty Sm_ok 12 1 0 hx0 rfl (by decide)).2 h (fun v13 h => ?_)
          refine wr_goto 92 (wg_da dt_X12_ruleOf 54 rfl) (by decide) ?_
          exact wr_iret (wg_da dt_X12_ruleOf 56 rfl) h
      · refine wr_aload_n (wg_da dt_X12_ruleOf 31 rfl) rfl ?_
        refine wr_iload_n (wg_da dt_X12_ruleOf 32 rfl) rfl ?_
        refine wr_iload_n (wg_da dt_X12_ruleOf 33 rfl) rfl ?_
        refine wr_iload_n (wg_da dt_X12_ruleOf 34 rfl) rfl ?_
        refine wr_bipush (10 : Int32) (wg_da dt_X12_ruleOf 35 rfl) (by decide) ?_
        refine wr_isub (wg_da dt_X12_ruleOf 36 rfl) ?_
        refine wr_callVi [.int x1, .int x2, .int (x3 - (10 : Int32))] [] (wg_da dt_X12_ruleOf 37 rfl) ⟨wq_8_82, wq_8_84, wq_p7_6⟩ hx0 ⟨rfl, by decide⟩ wy_X12_countsOf (fun q hq => m_X12_countsOf l E x0 x1 x2 (x3 - (10 : Int32)) hx0 _ q hq) rfl rfl (Nat.le_of_ble_eq_true rfl) ⟨rfl, rfl, by decide, by decide⟩ h (fun v14 s15 h => ?_)
        exact wr_iret (wg_da dt_X12_ruleOf 38 rfl) h
theorem m_X12_ruleOf (l : Launch) (E : wg_E) (x0 : Nat) (x1 : Int32) (x2 : Int32) (x3 : Int32) (hx0 : wg_t Sm x0 = 14) (σ : wg_M) (q : Int32 × wg_M) (h : f_X12_ruleOf x0 x1 x2 x3 σ = some q) : wg_MG l E Sm yX12_ruleOf cX12_ruleOf 4 (some .int) rm_X12_ruleOf [.ref x0, .int x1, .int x2, .int x3] σ (some q.1) q.2 :=
  wg_met [.ref x0, .int x1, .int x2, .int x3] (plainFor_of_name (by decide)) (Nat.le_of_ble_eq_true rfl) (g_X12_ruleOf_e l E x0 x1 x2 x3 σ q hx0 h)
abbrev rm_X12_who : Room := { frames := 5, cells := 0, slots := 0, locals := 115 }
def tb_X12_who : List (Nat × Instr × Nat) := [(0, .aload_n 0, 1), (1, .iconst 0, 1), (2, .putfield 113, 3), (5, .aload_n 0, 1), (6, .iload_n 1, 1), (7, .invokevirtual 164, 3), (10, .ifCond .ne 6, 3), (13, .bipush (-100), 2), (15, .ireturn, 1), (16, .iload_n 2, 1), (17, .ifCond .ne 12, 3), (20, .aload_n 0, 1), (21, .getfield 7, 3), (24, .iconst 3, 1), (25, .iload_n 1, 1), (26, .iadd, 1), (27, .iaload, 1), (28, .ireturn, 1), (29, .iload_n 2, 1), (30, .iconst 1, 1), (31, .if_icmp .ne 10, 3), (34, .aload_n 0, 1), (35, .getfield 22, 3), (38, .iload_n 1, 1), (39, .iaload, 1), (40, .ireturn, 1), (41, .iload_n 2, 1), (42, .iconst 2, 1), (43, .if_icmp .ne 9, 3), (46, .aload_n 0, 1), (47, .iload_n 1, 1), (48, .invokevirtual 134, 3), (51, .ireturn, 1), (52, .iload_n 2, 1), (53, .iconst 3, 1), (54, .if_icmp .ne 13, 3), (57, .aload_n 0, 1), (58, .getfield 7, 3), (61, .bipush 23, 2), (63, .iload_n 1, 1), (64, .iadd, 1), (65, .iaload, 1), (66, .ireturn, 1), (67, .iload_n 2, 1), (68, .iconst 4, 1), (69, .if_icmp .ne 15, 3), (72, .aload_n 0, 1), (73, .getfield 7, 3), (76, .bipush 33, 2), (78, .iload_n 1, 1), (79, .iadd, 1), (80, .iaload, 1), (81, .goto 18, 3), (84, .iload_n 2, 1), (85, .iconst 5, 1), (86, .if_icmp .ne 11, 3), (89, .aload_n 0, 1), (90, .iload_n 1, 1), (91, .invokevirtual 407, 3), (94, .goto 5, 3), (97, .bipush (-100), 2), (99, .ireturn, 1)]
theorem dt_X12_who : wg_dc cX12_who tb_X12_who := by unfold wg_dc; decide +kernel
def f_X12_who  (x0 : Nat) (x1 : Int32) (x2 : Int32) (σ : wg_M) : Option (Int32 × wg_M) := wg_st σ x0 0 (0 : Int32) (fun s1 => wg_bd (f_X12_isJudge x0 x1 s1) (fun v2 s3 => if v2 = 0 then (some ((-100 : Int32), s3)) else (if x2 = 0 then (wg_ga (wg_n Sm (wg_r Sm x0 1)) (s3 (wg_r Sm x0 1)) ((3 : Int32) + x1) (fun v11 => some (v11, s3))) else (if x2 = (1 : Int32) then (wg_ga (wg_n Sm (wg_r Sm x0 10)) (s3 (wg_r Sm x0 10)) x1 (fun v10 => some (v10, s3))) else (if x2 = (2 : Int32) then (wg_bd (f_X12_wigOf x0 x1 s3) (fun v8 s9 => some (v8, s9))) else (if x2 = (3 : Int32) then (wg_ga (wg_n Sm (wg_r Sm x0 1)) (s3 (wg_r Sm x0 1)) ((23 : Int32) + x1) (fun v7 => some (v7, s3))) else (if x2 = (4 : Int32) then (wg_ga (wg_n Sm (wg_r Sm x0 1)) (s3 (wg_r Sm x0 1)) ((33 : Int32) + x1) (fun v6 => some (v6, s3))) else (if x2 = (5 : Int32) then (wg_bd (f_X12_diesOf x0 x1 s3) (fun v4 s5 => some (v4, s5))) else (some ((-100 : Int32), s3))))))))))
set_option maxRecDepth 20000 in
theorem g_X12_who_e (l : Launch) (E : wg_E)  (x0 : Nat) (x1 : Int32) (x2 : Int32) (σ : wg_M) (z : Int32 × wg_M) (hx0 : wg_t Sm x0 = 14) (h : f_X12_who  x0 x1 x2 σ = some z) : wg_G l E Sm "WornWigsModel" cX12_who 3 (some .int) rm_X12_who (some z.1) z.2 0 [some (.ref x0), some (.int x1), some (.int x2)] [] σ := by
  refine wr_aload_n (wg_da dt_X12_who 0 rfl) rfl ?_
  refine wr_iconst (0 : Int32) (wg_da dt_X12_who 1 rfl) (by decide) ?_
  refine wr_putI wfp_X12_113 (wg_da dt_X12_who 2 rfl) hx0 h (fun s1 h => ?_)
  refine wr_aload_n (wg_da dt_X12_who 3 rfl) rfl ?_
  refine wr_iload_n (wg_da dt_X12_who 4 rfl) rfl ?_
  refine wr_callVi [.int x1] [] (wg_da dt_X12_who 5 rfl) ⟨wq_7_130, wq_7_132, wq_p4_11⟩ hx0 ⟨rfl, by decide⟩ wy_X12_isJudge (fun q hq => m_X12_isJudge l E x0 x1 hx0 _ q hq) rfl rfl (Nat.le_of_ble_eq_true rfl) ⟨rfl, rfl, by decide, by decide⟩ h (fun v2 s3 h => ?_)
  refine wr_if_ne 16 (wg_da dt_X12_who 6 rfl) (by decide) h (fun h => ?_) (fun h => ?_)
  · refine wr_bipush (-100 : Int32) (wg_da dt_X12_who 7 rfl) (by decide) ?_
    exact wr_iret (wg_da dt_X12_who 8 rfl) h
  · refine wr_iload_n (wg_da dt_X12_who 9 rfl) rfl ?_
    refine wr_if_ne 29 (wg_da dt_X12_who 10 rfl) (by decide) h (fun h => ?_) (fun h => ?_)
    · refine wr_aload_n (wg_da dt_X12_who 11 rfl) rfl ?_
      refine wr_getR wf_X12_7 (wg_da dt_X12_who 12 rfl) hx0 ?_
      refine wr_iconst (3 : Int32) (wg_da dt_X12_who 13 rfl) (by decide) ?_
      refine wr_iload_n (wg_da dt_X12_who 14 rfl) rfl ?_
      refine wr_iadd (wg_da dt_X12_who 15 rfl) ?_
      refine wr_iald (wg_da dt_X12_who 16 rfl) (wg_ty Sm_ok 12 1 0 hx0 rfl (by decide)).2 h (fun v11 h => ?_)
      exact wr_iret (wg_da dt_X12_who 17 rfl) h
    · refine wr_iload_n (wg_da dt_X12_who 18 rfl) rfl ?_
      refine wr_iconst (1 : Int32) (wg_da dt_X12_who 19 rfl) (by decide) ?_
      refine wr_icmp_ne 41 (wg_da dt_X12_who 20 rfl) (by decide) h (fun h => ?_) (fun h => ?_)
      · refine wr_aload_n (wg_da dt_X12_who 21 rfl) rfl ?_
        refine wr_getR wf_X12_22 (wg_da dt_X12_who 22 rfl) hx0 ?_
        refine wr_iload_n (wg_da dt_X12_who 23 rfl) rfl ?_
        refine wr_iald (wg_da dt_X12_who 24 rfl) (wg_ty Sm_ok 12 10 0 hx0 rfl (by decide)).2 h (fun v10 h => ?_)
        exact wr_iret (wg_da dt_X12_who 25 rfl) h
      · refine wr_iload_n (wg_da dt_X12_who 26 rfl) rfl ?_
        refine wr_iconst (2 : Int32) (wg_da dt_X12_who 27 rfl) (by decide) ?_
        refine wr_icmp_ne 52 (wg_da dt_X12_who 28 rfl) (by decide) h (fun h => ?_) (fun h => ?_)
        · refine wr_aload_n (wg_da dt_X12_who 29 rfl) rfl ?_
          refine wr_iload_n (wg_da dt_X12_who 30 rfl) rfl ?_
          refine wr_callVi [.int x1] [] (wg_da dt_X12_who 31 rfl) ⟨wq_8_78, wq_8_80, wq_p7_5⟩ hx0 ⟨rfl, by decide⟩ wy_X12_wigOf (fun q hq => m_X12_wigOf l E x0 x1 hx0 _ q hq) rfl rfl (Nat.le_of_ble_eq_true rfl) ⟨rfl, rfl, by decide, by decide⟩ h (fun v8 s9 h => ?_)
          exact wr_iret (wg_da dt_X12_who 32 rfl) h
        · refine wr_iload_n (wg_da dt_X12_who 33 rfl) rfl ?_
          refine wr_iconst (3 : Int32) (wg_da dt_X12_who 34 rfl) (by decide) ?_
          refine wr_icmp_ne 67 (wg_da dt_X12_who 35 rfl) (by decide) h (fun h => ?_) (fun h => ?_)
          · refine wr_aload_n (wg_da dt_X12_who 36 rfl) rfl ?_
            refine wr_getR wf_X12_7 (wg_da dt_X12_who 37 rfl) hx0 ?_
            refine wr_bipush (23 : Int32) (wg_da dt_X12_who 38 rfl) (by decide) ?_
            refine wr_iload_n (wg_da dt_X12_who 39 rfl) rfl ?_
            refine wr_iadd (wg_da dt_X12_who 40 rfl) ?_
            refine wr_iald (wg_da dt_X12_who 41 rfl) (wg_ty Sm_ok 12 1 0 hx0 rfl (by decide)).2 h (fun v7 h => ?_)
            exact wr_iret (wg_da dt_X12_who 42 rfl) h
          · refine wr_iload_n (wg_da dt_X12_who 43 rfl) rfl ?_
            refine wr_iconst (4 : Int32) (wg_da dt_X12_who 44 rfl) (by decide) ?_
            refine wr_icmp_ne 84 (wg_da dt_X12_who 45 rfl) (by decide) h (fun h => ?_) (fun h => ?_)
            · refine wr_aload_n (wg_da dt_X12_who 46 rfl) rfl ?_
              refine wr_getR wf_X12_7 (wg_da dt_X12_who 47 rfl) hx0 ?_
              refine wr_bipush (33 : Int32) (wg_da dt_X12_who 48 rfl) (by decide) ?_
              refine wr_iload_n (wg_da dt_X12_who 49 rfl) rfl ?_
              refine wr_iadd (wg_da dt_X12_who 50 rfl) ?_
              refine wr_iald (wg_da dt_X12_who 51 rfl) (wg_ty Sm_ok 12 1 0 hx0 rfl (by decide)).2 h (fun v6 h => ?_)
              refine wr_goto 99 (wg_da dt_X12_who 52 rfl) (by decide) ?_
              exact wr_iret (wg_da dt_X12_who 61 rfl) h
            · refine wr_iload_n (wg_da dt_X12_who 53 rfl) rfl ?_
              refine wr_iconst (5 : Int32) (wg_da dt_X12_who 54 rfl) (by decide) ?_
              refine wr_icmp_ne 97 (wg_da dt_X12_who 55 rfl) (by decide) h (fun h => ?_) (fun h => ?_)
              · refine wr_aload_n (wg_da dt_X12_who 56 rfl) rfl ?_
                refine wr_iload_n (wg_da dt_X12_who 57 rfl) rfl ?_
                refine wr_callVi [.int x1] [] (wg_da dt_X12_who 58 rfl) ⟨wq_8_178, wq_8_180, wq_p8_12⟩ hx0 ⟨rfl, by decide⟩ wy_X12_diesOf (fun q hq => m_X12_diesOf l E x0 x1 hx0 _ q hq) rfl rfl (Nat.le_of_ble_eq_true rfl) ⟨rfl, rfl, by decide, by decide⟩ h (fun v4 s5 h => ?_)
                refine wr_goto 99 (wg_da dt_X12_who 59 rfl) (by decide) ?_
                exact wr_iret (wg_da dt_X12_who 61 rfl) h
              · refine wr_bipush (-100 : Int32) (wg_da dt_X12_who 60 rfl) (by decide) ?_
                exact wr_iret (wg_da dt_X12_who 61 rfl) h
theorem m_X12_who (l : Launch) (E : wg_E) (x0 : Nat) (x1 : Int32) (x2 : Int32) (hx0 : wg_t Sm x0 = 14) (σ : wg_M) (q : Int32 × wg_M) (h : f_X12_who x0 x1 x2 σ = some q) : wg_MG l E Sm yX12_who cX12_who 3 (some .int) rm_X12_who [.ref x0, .int x1, .int x2] σ (some q.1) q.2 :=
  wg_met [.ref x0, .int x1, .int x2] (plainFor_of_name (by decide)) (Nat.le_of_ble_eq_true rfl) (g_X12_who_e l E x0 x1 x2 σ q hx0 h)
abbrev rm_X12_trialOf : Room := { frames := 1, cells := 0, slots := 0, locals := 21 }
def tb_X12_trialOf : List (Nat × Instr × Nat) := [(0, .aload_n 0, 1), (1, .iconst 0, 1), (2, .putfield 113, 3), (5, .aload_n 0, 1), (6, .iload_n 1, 1), (7, .invokevirtual 167, 3), (10, .ifCond .ne 7, 3), (13, .ldc_w 428, 3), (16, .ireturn, 1), (17, .iload_n 2, 1), (18, .ifCond .ne 10, 3), (21, .aload_n 0, 1), (22, .getfield 25, 3), (25, .iload_n 1, 1), (26, .iaload, 1), (27, .ireturn, 1), (28, .iload_n 2, 1), (29, .iconst 1, 1), (30, .if_icmp .ne 10, 3), (33, .aload_n 0, 1), (34, .getfield 28, 3), (37, .iload_n 1, 1), (38, .iaload, 1), (39, .ireturn, 1), (40, .iload_n 2, 1), (41, .iconst 2, 1), (42, .if_icmp .ne 37, 3), (45, .aload_n 0, 1), (46, .getfield 7, 3), (49, .sipush 267, 3), (52, .iload_n 1, 1), (53, .iadd, 1), (54, .iaload, 1), (55, .ifCond .ne 9, 3), (58, .sipush (-10000), 3), (61, .goto 17, 3), (64, .aload_n 0, 1), (65, .getfield 7, 3), (68, .sipush 267, 3), (71, .iload_n 1, 1), (72, .iadd, 1), (73, .iaload, 1), (74, .sipush 1000, 3), (77, .isub, 1), (78, .ireturn, 1), (79, .iload_n 2, 1), (80, .iconst 3, 1), (81, .if_icmp .ne 18, 3), (84, .aload_n 0, 1), (85, .getfield 7, 3), (88, .sipush 281, 3), (91, .iload_n 1, 1), (92, .iadd, 1), (93, .iaload, 1), (94, .iconst 1, 1), (95, .isub, 1), (96, .goto 6, 3), (99, .ldc_w 428, 3), (102, .ireturn, 1)]
theorem dt_X12_trialOf : wg_dc cX12_trialOf tb_X12_trialOf := by unfold wg_dc; decide +kernel
def f_X12_trialOf  (x0 : Nat) (x1 : Int32) (x2 : Int32) (σ : wg_M) : Option (Int32 × wg_M) := wg_st σ x0 0 (0 : Int32) (fun s1 => wg_bd (f_X12_isTrial x0 x1 s1) (fun v2 s3 => if v2 = 0 then (some ((-100000 : Int32), s3)) else (if x2 = 0 then (wg_ga (wg_n Sm (wg_r Sm x0 11)) (s3 (wg_r Sm x0 11)) x1 (fun v8 => some (v8, s3))) else (if x2 = (1 : Int32) then (wg_ga (wg_n Sm (wg_r Sm x0 12)) (s3 (wg_r Sm x0 12)) x1 (fun v7 => some (v7, s3))) else (if x2 = (2 : Int32) then (wg_ga (wg_n Sm (wg_r Sm x0 1)) (s3 (wg_r Sm x0 1)) ((267 : Int32) + x1) (fun v5 => if v5 = 0 then (some ((-10000 : Int32), s3)) else (wg_ga (wg_n Sm (wg_r Sm x0 1)) (s3 (wg_r Sm x0 1)) ((267 : Int32) + x1) (fun v6 => some (v6 - (1000 : Int32), s3))))) else (if x2 = (3 : Int32) then (wg_ga (wg_n Sm (wg_r Sm x0 1)) (s3 (wg_r Sm x0 1)) ((281 : Int32) + x1) (fun v4 => some (v4 - (1 : Int32), s3))) else (some ((-100000 : Int32), s3))))))))
set_option maxRecDepth 20000 in
theorem g_X12_trialOf_e (l : Launch) (E : wg_E)  (x0 : Nat) (x1 : Int32) (x2 : Int32) (σ : wg_M) (z : Int32 × wg_M) (hx0 : wg_t Sm x0 = 14) (h : f_X12_trialOf  x0 x1 x2 σ = some z) : wg_G l E Sm "WornWigsModel" cX12_trialOf 3 (some .int) rm_X12_trialOf (some z.1) z.2 0 [some (.ref x0), some (.int x1), some (.int x2)] [] σ := by
  refine wr_aload_n (wg_da dt_X12_trialOf 0 rfl) rfl ?_
  refine wr_iconst (0 : Int32) (wg_da dt_X12_trialOf 1 rfl) (by decide) ?_
  refine wr_putI wfp_X12_113 (wg_da dt_X12_trialOf 2 rfl) hx0 h (fun s1 h => ?_)
  refine wr_aload_n (wg_da dt_X12_trialOf 3 rfl) rfl ?_
  refine wr_iload_n (wg_da dt_X12_trialOf 4 rfl) rfl ?_
  refine wr_callVi [.int x1] [] (wg_da dt_X12_trialOf 5 rfl) ⟨wq_7_134, wq_7_136, wq_p4_12⟩ hx0 ⟨rfl, by decide⟩ wy_X12_isTrial (fun q hq => m_X12_isTrial l E x0 x1 hx0 _ q hq) rfl rfl (Nat.le_of_ble_eq_true rfl) ⟨rfl, rfl, by decide, by decide⟩ h (fun v2 s3 h => ?_)
  refine wr_if_ne 17 (wg_da dt_X12_trialOf 6 rfl) (by decide) h (fun h => ?_) (fun h => ?_)
  · refine wr_ldcw (v := (-100000 : Int32)) (wg_da dt_X12_trialOf 7 rfl) wq_8_220 ?_
    exact wr_iret (wg_da dt_X12_trialOf 8 rfl) h
  · refine wr_iload_n (wg_da dt_X12_trialOf 9 rfl) rfl ?_
    refine wr_if_ne 28 (wg_da dt_X12_trialOf 10 rfl) (by decide) h (fun h => ?_) (fun h => ?_)
    · refine wr_aload_n (wg_da dt_X12_trialOf 11 rfl) rfl ?_
      refine wr_getR wf_X12_25 (wg_da dt_X12_trialOf 12 rfl) hx0 ?_
      refine wr_iload_n (wg_da dt_X12_trialOf 13 rfl) rfl ?_
      refine wr_iald (wg_da dt_X12_trialOf 14 rfl) (wg_ty Sm_ok 12 11 0 hx0 rfl (by decide)).2 h (fun v8 h => ?_)
      exact wr_iret (wg_da dt_X12_trialOf 15 rfl) h
    · refine wr_iload_n (wg_da dt_X12_trialOf 16 rfl) rfl ?_
      refine wr_iconst (1 : Int32) (wg_da dt_X12_trialOf 17 rfl) (by decide) ?_
      refine wr_icmp_ne 40 (wg_da dt_X12_trialOf 18 rfl) (by decide) h (fun h => ?_) (fun h => ?_)
      · refine wr_aload_n (wg_da dt_X12_trialOf 19 rfl) rfl ?_
        refine wr_getR wf_X12_28 (wg_da dt_X12_trialOf 20 rfl) hx0 ?_
        refine wr_iload_n (wg_da dt_X12_trialOf 21 rfl) rfl ?_
        refine wr_iald (wg_da dt_X12_trialOf 22 rfl) (wg_ty Sm_ok 12 12 0 hx0 rfl (by decide)).2 h (fun v7 h => ?_)
        exact wr_iret (wg_da dt_X12_trialOf 23 rfl) h
      · refine wr_iload_n (wg_da dt_X12_trialOf 24 rfl) rfl ?_
        refine wr_iconst (2 : Int32) (wg_da dt_X12_trialOf 25 rfl) (by decide) ?_
        refine wr_icmp_ne 79 (wg_da dt_X12_trialOf 26 rfl) (by decide) h (fun h => ?_) (fun h => ?_)
        · refine wr_aload_n (wg_da dt_X12_trialOf 27 rfl) rfl ?_
          refine wr_getR wf_X12_7 (wg_da dt_X12_trialOf 28 rfl) hx0 ?_
          refine wr_sipush (267 : Int32) (wg_da dt_X12_trialOf 29 rfl) (by decide) ?_
          refine wr_iload_n (wg_da dt_X12_trialOf 30 rfl) rfl ?_
          refine wr_iadd (wg_da dt_X12_trialOf 31 rfl) ?_
          refine wr_iald (wg_da dt_X12_trialOf 32 rfl) (wg_ty Sm_ok 12 1 0 hx0 rfl (by decide)).2 h (fun v5 h => ?_)
          refine wr_if_ne 64 (wg_da dt_X12_trialOf 33 rfl) (by decide) h (fun h => ?_) (fun h => ?_)
          · refine wr_sipush (-10000 : Int32) (wg_da dt_X12_trialOf 34 rfl) (by decide) ?_
            refine wr_goto 78 (wg_da dt_X12_trialOf 35 rfl) (by decide) ?_
            exact wr_iret (wg_da dt_X12_trialOf 44 rfl) h
          · refine wr_aload_n (wg_da dt_X12_trialOf 36 rfl) rfl ?_
            refine wr_getR wf_X12_7 (wg_da dt_X12_trialOf 37 rfl) hx0 ?_
            refine wr_sipush (267 : Int32) (wg_da dt_X12_trialOf 38 rfl) (by decide) ?_
            refine wr_iload_n (wg_da dt_X12_trialOf 39 rfl) rfl ?_
            refine wr_iadd (wg_da dt_X12_trialOf 40 rfl) ?_
            refine wr_iald (wg_da dt_X12_trialOf 41 rfl) (wg_ty Sm_ok 12 1 0 hx0 rfl (by decide)).2 h (fun v6 h => ?_)
            refine wr_sipush (1000 : Int32) (wg_da dt_X12_trialOf 42 rfl) (by decide) ?_
            refine wr_isub (wg_da dt_X12_trialOf 43 rfl) ?_
            exact wr_iret (wg_da dt_X12_trialOf 44 rfl) h
        · refine wr_iload_n (wg_da dt_X12_trialOf 45 rfl) rfl ?_
          refine wr_iconst (3 : Int32) (wg_da dt_X12_trialOf 46 rfl) (by decide) ?_
          refine wr_icmp_ne 99 (wg_da dt_X12_trialOf 47 rfl) (by decide) h (fun h => ?_) (fun h => ?_)
          · refine wr_aload_n (wg_da dt_X12_trialOf 48 rfl) rfl ?_
            refine wr_getR wf_X12_7 (wg_da dt_X12_trialOf 49 rfl) hx0 ?_
            refine wr_sipush (281 : Int32) (wg_da dt_X12_trialOf 50 rfl) (by decide) ?_
            refine wr_iload_n (wg_da dt_X12_trialOf 51 rfl) rfl ?_
            refine wr_iadd (wg_da dt_X12_trialOf 52 rfl) ?_
            refine wr_iald (wg_da dt_X12_trialOf 53 rfl) (wg_ty Sm_ok 12 1 0 hx0 rfl (by decide)).2 h (fun v4 h => ?_)
            refine wr_iconst (1 : Int32) (wg_da dt_X12_trialOf 54 rfl) (by decide) ?_
            refine wr_isub (wg_da dt_X12_trialOf 55 rfl) ?_
            refine wr_goto 102 (wg_da dt_X12_trialOf 56 rfl) (by decide) ?_
            exact wr_iret (wg_da dt_X12_trialOf 58 rfl) h
          · refine wr_ldcw (v := (-100000 : Int32)) (wg_da dt_X12_trialOf 57 rfl) wq_8_220 ?_
            exact wr_iret (wg_da dt_X12_trialOf 58 rfl) h
theorem m_X12_trialOf (l : Launch) (E : wg_E) (x0 : Nat) (x1 : Int32) (x2 : Int32) (hx0 : wg_t Sm x0 = 14) (σ : wg_M) (q : Int32 × wg_M) (h : f_X12_trialOf x0 x1 x2 σ = some q) : wg_MG l E Sm yX12_trialOf cX12_trialOf 3 (some .int) rm_X12_trialOf [.ref x0, .int x1, .int x2] σ (some q.1) q.2 :=
  wg_met [.ref x0, .int x1, .int x2] (plainFor_of_name (by decide)) (Nat.le_of_ble_eq_true rfl) (g_X12_trialOf_e l E x0 x1 x2 σ q hx0 h)
abbrev rm_X12_book : Room := { frames := 1, cells := 0, slots := 0, locals := 23 }
def tb_X12_book : List (Nat × Instr × Nat) := [(0, .aload_n 0, 1), (1, .iconst 0, 1), (2, .putfield 113, 3), (5, .aload_n 0, 1), (6, .iload_n 1, 1), (7, .iconst 0, 1), (8, .aload_n 0, 1), (9, .getfield 7, 3), (12, .iconst 2, 1), (13, .iaload, 1), (14, .iconst 1, 1), (15, .isub, 1), (16, .invokevirtual 153, 3), (19, .ifCond .eq 26, 3), (22, .aload_n 0, 1), (23, .iload_n 2, 1), (24, .iconst 0, 1), (25, .iconst 3, 1), (26, .invokevirtual 153, 3), (29, .ifCond .eq 16, 3), (32, .aload_n 0, 1), (33, .getfield 31, 3), (36, .iconst 4, 1), (37, .iload_n 1, 1), (38, .imul, 1), (39, .iload_n 2, 1), (40, .iadd, 1), (41, .iaload, 1), (42, .goto 6, 3), (45, .sipush (-10000), 3), (48, .ireturn, 1)]
theorem dt_X12_book : wg_dc cX12_book tb_X12_book := by unfold wg_dc; decide +kernel
def f_X12_book  (x0 : Nat) (x1 : Int32) (x2 : Int32) (σ : wg_M) : Option (Int32 × wg_M) := wg_st σ x0 0 (0 : Int32) (fun s1 => wg_ga (wg_n Sm (wg_r Sm x0 1)) (s1 (wg_r Sm x0 1)) (2 : Int32) (fun v2 => wg_bd (f_X12_isIn x0 x1 (0 : Int32) (v2 - (1 : Int32)) s1) (fun v3 s4 => if v3 = 0 then (some ((-10000 : Int32), s4)) else (wg_bd (f_X12_isIn x0 x2 (0 : Int32) (3 : Int32) s4) (fun v5 s6 => if v5 = 0 then (some ((-10000 : Int32), s6)) else (wg_ga (wg_n Sm (wg_r Sm x0 13)) (s6 (wg_r Sm x0 13)) (((4 : Int32) * x1) + x2) (fun v7 => some (v7, s6))))))))
set_option maxRecDepth 20000 in
theorem g_X12_book_e (l : Launch) (E : wg_E)  (x0 : Nat) (x1 : Int32) (x2 : Int32) (σ : wg_M) (z : Int32 × wg_M) (hx0 : wg_t Sm x0 = 14) (h : f_X12_book  x0 x1 x2 σ = some z) : wg_G l E Sm "WornWigsModel" cX12_book 3 (some .int) rm_X12_book (some z.1) z.2 0 [some (.ref x0), some (.int x1), some (.int x2)] [] σ := by
  refine wr_aload_n (wg_da dt_X12_book 0 rfl) rfl ?_
  refine wr_iconst (0 : Int32) (wg_da dt_X12_book 1 rfl) (by decide) ?_
  refine wr_putI wfp_X12_113 (wg_da dt_X12_book 2 rfl) hx0 h (fun s1 h => ?_)
  refine wr_aload_n (wg_da dt_X12_book 3 rfl) rfl ?_
  refine wr_iload_n (wg_da dt_X12_book 4 rfl) rfl ?_
  refine wr_iconst (0 : Int32) (wg_da dt_X12_book 5 rfl) (by decide) ?_
  refine wr_aload_n (wg_da dt_X12_book 6 rfl) rfl ?_
  refine wr_getR wf_X12_7 (wg_da dt_X12_book 7 rfl) hx0 ?_
  refine wr_iconst (2 : Int32) (wg_da dt_X12_book 8 rfl) (by decide) ?_
  refine wr_iald (wg_da dt_X12_book 9 rfl) (wg_ty Sm_ok 12 1 0 hx0 rfl (by decide)).2 h (fun v2 h => ?_)
  refine wr_iconst (1 : Int32) (wg_da dt_X12_book 10 rfl) (by decide) ?_
  refine wr_isub (wg_da dt_X12_book 11 rfl) ?_
  refine wr_callVi [.int x1, .int (0 : Int32), .int (v2 - (1 : Int32))] [] (wg_da dt_X12_book 12 rfl) ⟨wq_7_82, wq_7_84, wq_p4_3⟩ hx0 ⟨rfl, by decide⟩ wy_X12_isIn (fun q hq => m_X12_isIn l E x0 x1 (0 : Int32) (v2 - (1 : Int32)) hx0 _ q hq) rfl rfl (Nat.le_of_ble_eq_true rfl) ⟨rfl, rfl, by decide, by decide⟩ h (fun v3 s4 h => ?_)
  refine wr_if_eq 45 (wg_da dt_X12_book 13 rfl) (by decide) h (fun h => ?_) (fun h => ?_)
  · refine wr_sipush (-10000 : Int32) (wg_da dt_X12_book 29 rfl) (by decide) ?_
    exact wr_iret (wg_da dt_X12_book 30 rfl) h
  · refine wr_aload_n (wg_da dt_X12_book 14 rfl) rfl ?_
    refine wr_iload_n (wg_da dt_X12_book 15 rfl) rfl ?_
    refine wr_iconst (0 : Int32) (wg_da dt_X12_book 16 rfl) (by decide) ?_
    refine wr_iconst (3 : Int32) (wg_da dt_X12_book 17 rfl) (by decide) ?_
    refine wr_callVi [.int x2, .int (0 : Int32), .int (3 : Int32)] [] (wg_da dt_X12_book 18 rfl) ⟨wq_7_82, wq_7_84, wq_p4_3⟩ hx0 ⟨rfl, by decide⟩ wy_X12_isIn (fun q hq => m_X12_isIn l E x0 x2 (0 : Int32) (3 : Int32) hx0 _ q hq) rfl rfl (Nat.le_of_ble_eq_true rfl) ⟨rfl, rfl, by decide, by decide⟩ h (fun v5 s6 h => ?_)
    refine wr_if_eq 45 (wg_da dt_X12_book 19 rfl) (by decide) h (fun h => ?_) (fun h => ?_)
    · refine wr_sipush (-10000 : Int32) (wg_da dt_X12_book 29 rfl) (by decide) ?_
      exact wr_iret (wg_da dt_X12_book 30 rfl) h
    · refine wr_aload_n (wg_da dt_X12_book 20 rfl) rfl ?_
      refine wr_getR wf_X12_31 (wg_da dt_X12_book 21 rfl) hx0 ?_
      refine wr_iconst (4 : Int32) (wg_da dt_X12_book 22 rfl) (by decide) ?_
      refine wr_iload_n (wg_da dt_X12_book 23 rfl) rfl ?_
      refine wr_imul (wg_da dt_X12_book 24 rfl) ?_
      refine wr_iload_n (wg_da dt_X12_book 25 rfl) rfl ?_
      refine wr_iadd (wg_da dt_X12_book 26 rfl) ?_
      refine wr_iald (wg_da dt_X12_book 27 rfl) (wg_ty Sm_ok 12 13 0 hx0 rfl (by decide)).2 h (fun v7 h => ?_)
      refine wr_goto 48 (wg_da dt_X12_book 28 rfl) (by decide) ?_
      exact wr_iret (wg_da dt_X12_book 30 rfl) h
theorem m_X12_book (l : Launch) (E : wg_E) (x0 : Nat) (x1 : Int32) (x2 : Int32) (hx0 : wg_t Sm x0 = 14) (σ : wg_M) (q : Int32 × wg_M) (h : f_X12_book x0 x1 x2 σ = some q) : wg_MG l E Sm yX12_book cX12_book 3 (some .int) rm_X12_book [.ref x0, .int x1, .int x2] σ (some q.1) q.2 :=
  wg_met [.ref x0, .int x1, .int x2] (plainFor_of_name (by decide)) (Nat.le_of_ble_eq_true rfl) (g_X12_book_e l E x0 x1 x2 σ q hx0 h)
abbrev rm_X12_deadSet : Room := { frames := 1, cells := 0, slots := 0, locals := 21 }
def tb_X12_deadSet : List (Nat × Instr × Nat) := [(0, .iconst 0, 1), (1, .istore_n 1, 1), (2, .iconst 0, 1), (3, .istore_n 2, 1), (4, .iload_n 2, 1), (5, .aload_n 0, 1), (6, .getfield 128, 3), (9, .if_icmp .ge 23, 3), (12, .aload_n 0, 1), (13, .iload_n 2, 1), (14, .invokevirtual 354, 3), (17, .ifCond .ne 9, 3), (20, .iload_n 1, 1), (21, .iconst 1, 1), (22, .iload_n 2, 1), (23, .ishl, 1), (24, .ior, 1), (25, .istore_n 1, 1), (26, .iinc 2 1, 3), (29, .goto (-25), 3), (32, .iload_n 1, 1), (33, .ireturn, 1)]
theorem dt_X12_deadSet : wg_dc cX12_deadSet tb_X12_deadSet := by unfold wg_dc; decide +kernel
def f_X12_deadSet_26 (k4 : Nat → Int32 → Int32 → wg_M → Option (Int32 × wg_M)) (x0 : Nat) (x1 : Int32) (x2 : Int32) (σ : wg_M) : Option (Int32 × wg_M) := wg_let (x2 + (1 : Int32)) (fun v1 => k4 x0 x1 v1 σ)
def f_X12_deadSet_4  : Nat → Nat → Int32 → Int32 → wg_M → Option (Int32 × wg_M)
  | 0, _, _, _, _ => none
  | n + 1, x0, x1, x2, σ => if (σ x0 7) ≤ x2 then (some (x1, σ)) else (wg_bd (f_X12_isAlive x0 x2 σ) (fun v1 s2 => if v1 = 0 then (wg_let (x1 ||| ((1 : Int32) <<< (x2 &&& 31))) (fun v3 => f_X12_deadSet_26 (f_X12_deadSet_4  n) x0 v3 x2 s2)) else (f_X12_deadSet_26 (f_X12_deadSet_4  n) x0 x1 x2 s2)))
def f_X12_deadSet  (x0 : Nat) (σ : wg_M) : Option (Int32 × wg_M) := f_X12_deadSet_4  wg_N x0 (0 : Int32) (0 : Int32) σ
set_option maxRecDepth 20000 in
theorem g_X12_deadSet_26 (l : Launch) (E : wg_E) (k4 : Nat → Int32 → Int32 → wg_M → Option (Int32 × wg_M)) (x0 : Nat) (x1 : Int32) (x2 : Int32) (σ : wg_M) (z : Int32 × wg_M) (hx0 : wg_t Sm x0 = 14) (hk4 : ∀ (x0 : Nat) (x1 : Int32) (x2 : Int32) (σ : wg_M), wg_t Sm x0 = 14 → k4 x0 x1 x2 σ = some z → wg_G l E Sm "WornWigsModel" cX12_deadSet 3 (some .int) rm_X12_deadSet (some z.1) z.2 4 [some (.ref x0), some (.int x1), some (.int x2)] [] σ) (h : f_X12_deadSet_26 k4 x0 x1 x2 σ = some z) : wg_G l E Sm "WornWigsModel" cX12_deadSet 3 (some .int) rm_X12_deadSet (some z.1) z.2 26 [some (.ref x0), some (.int x1), some (.int x2)] [] σ := by
  refine wr_iinc (c0 := (1 : Int32)) (wg_da dt_X12_deadSet 18 rfl) rfl (by decide) (by decide) h (fun v1 h => ?_)
  refine wr_goto 4 (wg_da dt_X12_deadSet 19 rfl) (by decide) ?_
  exact wr_wk [true, true, true] (hk4 x0 x1 v1 σ hx0 h)
set_option maxRecDepth 20000 in
theorem g_X12_deadSet_4 (l : Launch) (E : wg_E)  (z : Int32 × wg_M) : ∀ (n : Nat) (x0 : Nat) (x1 : Int32) (x2 : Int32) (σ : wg_M) (hx0 : wg_t Sm x0 = 14) (h : f_X12_deadSet_4  n x0 x1 x2 σ = some z), wg_G l E Sm "WornWigsModel" cX12_deadSet 3 (some .int) rm_X12_deadSet (some z.1) z.2 4 [some (.ref x0), some (.int x1), some (.int x2)] [] σ := by
  intro n
  induction n with
  | zero => intro x0 x1 x2 σ hx0 h; cases h
  | succ n ih =>
    intro x0 x1 x2 σ hx0 h
    refine wr_iload_n (wg_da dt_X12_deadSet 4 rfl) rfl ?_
    refine wr_aload_n (wg_da dt_X12_deadSet 5 rfl) rfl ?_
    refine wr_getI wf_X12_128 (wg_da dt_X12_deadSet 6 rfl) hx0 ?_
    refine wr_icmp_ge 32 (wg_da dt_X12_deadSet 7 rfl) (by decide) h (fun h => ?_) (fun h => ?_)
    · refine wr_iload_n (wg_da dt_X12_deadSet 20 rfl) rfl ?_
      exact wr_iret (wg_da dt_X12_deadSet 21 rfl) h
    · refine wr_aload_n (wg_da dt_X12_deadSet 8 rfl) rfl ?_
      refine wr_iload_n (wg_da dt_X12_deadSet 9 rfl) rfl ?_
      refine wr_callVi [.int x2] [] (wg_da dt_X12_deadSet 10 rfl) ⟨wq_8_62, wq_8_64, wq_p7_1⟩ hx0 ⟨rfl, by decide⟩ wy_X12_isAlive (fun q hq => m_X12_isAlive l E x0 x2 hx0 _ q hq) rfl rfl (Nat.le_of_ble_eq_true rfl) ⟨rfl, rfl, by decide, by decide⟩ h (fun v1 s2 h => ?_)
      refine wr_if_ne 26 (wg_da dt_X12_deadSet 11 rfl) (by decide) h (fun h => ?_) (fun h => ?_)
      · refine wr_iload_n (wg_da dt_X12_deadSet 12 rfl) rfl ?_
        refine wr_iconst (1 : Int32) (wg_da dt_X12_deadSet 13 rfl) (by decide) ?_
        refine wr_iload_n (wg_da dt_X12_deadSet 14 rfl) rfl ?_
        refine wr_ishl (wg_da dt_X12_deadSet 15 rfl) ?_
        refine wr_ior (wg_da dt_X12_deadSet 16 rfl) ?_
        refine wr_let h (fun v3 h => ?_)
        refine wr_istore_n (wg_da dt_X12_deadSet 17 rfl) (by decide) ?_
        exact wr_wk [true, true, true] (g_X12_deadSet_26 l E (f_X12_deadSet_4  n) x0 v3 x2 s2 _ hx0 (fun x0 x1 x2 σ hx0 h => ih x0 x1 x2 σ hx0 h) h)
      · exact wr_wk [true, true, true] (g_X12_deadSet_26 l E (f_X12_deadSet_4  n) x0 x1 x2 s2 _ hx0 (fun x0 x1 x2 σ hx0 h => ih x0 x1 x2 σ hx0 h) h)
set_option maxRecDepth 20000 in
theorem g_X12_deadSet_e (l : Launch) (E : wg_E)  (x0 : Nat) (σ : wg_M) (z : Int32 × wg_M) (hx0 : wg_t Sm x0 = 14) (h : f_X12_deadSet  x0 σ = some z) : wg_G l E Sm "WornWigsModel" cX12_deadSet 3 (some .int) rm_X12_deadSet (some z.1) z.2 0 [some (.ref x0), none, none] [] σ := by
  refine wr_iconst (0 : Int32) (wg_da dt_X12_deadSet 0 rfl) (by decide) ?_
  refine wr_istore_n (wg_da dt_X12_deadSet 1 rfl) (by decide) ?_
  refine wr_iconst (0 : Int32) (wg_da dt_X12_deadSet 2 rfl) (by decide) ?_
  refine wr_istore_n (wg_da dt_X12_deadSet 3 rfl) (by decide) ?_
  exact wr_wk [true, true, true] (g_X12_deadSet_4 l E  _  wg_N x0 (0 : Int32) (0 : Int32) σ hx0 h)
theorem m_X12_deadSet (l : Launch) (E : wg_E) (x0 : Nat) (hx0 : wg_t Sm x0 = 14) (σ : wg_M) (q : Int32 × wg_M) (h : f_X12_deadSet x0 σ = some q) : wg_MG l E Sm yX12_deadSet cX12_deadSet 3 (some .int) rm_X12_deadSet [.ref x0] σ (some q.1) q.2 :=
  wg_met [.ref x0] (plainFor_of_name (by decide)) (Nat.le_of_ble_eq_true rfl) (g_X12_deadSet_e l E x0 σ q hx0 h)
abbrev rm_X12_goes : Room := { frames := 8, cells := 0, slots := 0, locals := 188 }
def tb_X12_goes : List (Nat × Instr × Nat) := [(0, .aload_n 0, 1), (1, .iconst 0, 1), (2, .putfield 113, 3), (5, .aload_n 0, 1), (6, .iload_n 1, 1), (7, .iconst 1, 1), (8, .bipush 60, 2), (10, .invokevirtual 153, 3), (13, .ifCond .eq 13, 3), (16, .aload_n 0, 1), (17, .iload_n 2, 1), (18, .iconst 0, 1), (19, .iconst 3, 1), (20, .invokevirtual 153, 3), (23, .ifCond .ne 5, 3), (26, .iconst (-1), 1), (27, .ireturn, 1), (28, .aload_n 0, 1), (29, .invokevirtual 429, 3), (32, .iconst 0, 1), (33, .istore_n 3, 1), (34, .iload_n 3, 1), (35, .iload_n 1, 1), (36, .if_icmp .ge 14, 3), (39, .aload_n 0, 1), (40, .invokevirtual 425, 3), (43, .pop, 1), (44, .iinc 3 1, 3), (47, .goto (-13), 3), (50, .iconst 0, 1), (51, .istore_n 3, 1), (52, .iconst 0, 1), (53, .istore 4, 2), (55, .iconst 0, 1), (56, .istore 5, 2), (58, .iconst 0, 1), (59, .istore 6, 2), (61, .iload 6, 2), (63, .aload_n 0, 1), (64, .getfield 125, 3), (67, .if_icmp .ge 37, 3), (70, .iload_n 3, 1), (71, .aload_n 0, 1), (72, .getfield 7, 3), (75, .bipush 67, 2), (77, .iload 6, 2), (79, .iadd, 1), (80, .iaload, 1), (81, .iadd, 1), (82, .istore_n 3, 1), (83, .iload 4, 2), (85, .aload_n 0, 1), (86, .getfield 7, 3), (89, .bipush 43, 2), (91, .iload 6, 2), (93, .iadd, 1), (94, .iaload, 1), (95, .iadd, 1), (96, .istore 4, 2), (98, .iinc 6 1, 3), (101, .goto (-40), 3), (104, .iconst 0, 1), (105, .istore 6, 2), (107, .iload 6, 2), (109, .aload_n 0, 1), (110, .getfield 131, 3), (113, .if_icmp .ge 32, 3), (116, .aload_n 0, 1), (117, .getfield 7, 3), (120, .sipush 267, 3), (123, .iload 6, 2), (125, .iadd, 1), (126, .iaload, 1), (127, .sipush 1000, 3), (130, .if_icmp .le 9, 3), (133, .iload 5, 2), (135, .iconst 1, 1), (136, .iadd, 1), (137, .istore 5, 2), (139, .iinc 6 1, 3), (142, .goto (-35), 3), (145, .iload_n 2, 1), (146, .ifCond .ne 14, 3), (149, .aload_n 0, 1), (150, .aload_n 0, 1), (151, .invokevirtual 432, 3), (154, .invokevirtual 435, 3), (157, .goto 24, 3), (160, .iload_n 2, 1), (161, .iconst 1, 1), (162, .if_icmp .ne 7, 3), (165, .iload_n 3, 1), (166, .goto 15, 3), (169, .iload_n 2, 1), (170, .iconst 2, 1), (171, .if_icmp .ne 8, 3), (174, .iload 4, 2), (176, .goto 5, 3), (179, .iload 5, 2), (181, .istore 6, 2), (183, .aload_n 0, 1), (184, .invokevirtual 438, 3), (187, .iload 6, 2), (189, .ireturn, 1)]
theorem dt_X12_goes : wg_dc cX12_goes tb_X12_goes := by unfold wg_dc; decide +kernel
def f_X12_goes_139 (k107 : Nat → Int32 → Int32 → Int32 → Int32 → Int32 → wg_M → Option (Int32 × wg_M)) (x0 : Nat) (x2 : Int32) (x3 : Int32) (x4 : Int32) (x5 : Int32) (x6 : Int32) (σ : wg_M) : Option (Int32 × wg_M) := wg_let (x6 + (1 : Int32)) (fun v1 => k107 x0 x2 x3 x4 x5 v1 σ)
def f_X12_goes_181  (x0 : Nat) (t0 : Int32) (σ : wg_M) : Option (Int32 × wg_M) := wg_bd (f_X12_endsThought x0 σ) (fun _ s1 => some (t0, s1))
def f_X12_goes_107  : Nat → Nat → Int32 → Int32 → Int32 → Int32 → Int32 → wg_M → Option (Int32 × wg_M)
  | 0, _, _, _, _, _, _, _ => none
  | n + 1, x0, x2, x3, x4, x5, x6, σ => if (σ x0 8) ≤ x6 then (if x2 = 0 then (wg_bd (f_X12_deadSet x0 σ) (fun v1 s2 => wg_bd (f_X12_onesOf x0 v1 s2) (fun v3 s4 => f_X12_goes_181  x0 v3 s4))) else (if x2 = (1 : Int32) then (f_X12_goes_181  x0 x3 σ) else (if x2 = (2 : Int32) then (f_X12_goes_181  x0 x4 σ) else (f_X12_goes_181  x0 x5 σ)))) else (wg_ga (wg_n Sm (wg_r Sm x0 1)) (σ (wg_r Sm x0 1)) ((267 : Int32) + x6) (fun v5 => if v5 ≤ (1000 : Int32) then (f_X12_goes_139 (f_X12_goes_107  n) x0 x2 x3 x4 x5 x6 σ) else (wg_let (x5 + (1 : Int32)) (fun v6 => f_X12_goes_139 (f_X12_goes_107  n) x0 x2 x3 x4 v6 x6 σ))))
def f_X12_goes_61  : Nat → Nat → Int32 → Int32 → Int32 → Int32 → Int32 → wg_M → Option (Int32 × wg_M)
  | 0, _, _, _, _, _, _, _ => none
  | n + 1, x0, x2, x3, x4, x5, x6, σ => if (σ x0 6) ≤ x6 then (f_X12_goes_107  wg_N x0 x2 x3 x4 x5 (0 : Int32) σ) else (wg_ga (wg_n Sm (wg_r Sm x0 1)) (σ (wg_r Sm x0 1)) ((67 : Int32) + x6) (fun v1 => wg_let (x3 + v1) (fun v2 => wg_ga (wg_n Sm (wg_r Sm x0 1)) (σ (wg_r Sm x0 1)) ((43 : Int32) + x6) (fun v3 => wg_let (x4 + v3) (fun v4 => wg_let (x6 + (1 : Int32)) (fun v5 => f_X12_goes_61  n x0 x2 v2 v4 x5 v5 σ))))))
def f_X12_goes_34  : Nat → Nat → Int32 → Int32 → Int32 → wg_M → Option (Int32 × wg_M)
  | 0, _, _, _, _, _ => none
  | n + 1, x0, x1, x2, x3, σ => if x1 ≤ x3 then (f_X12_goes_61  wg_N x0 x2 (0 : Int32) (0 : Int32) (0 : Int32) (0 : Int32) σ) else (wg_bd (f_X12_goesBy x0 σ) (fun v1 s2 => wg_let (x3 + (1 : Int32)) (fun v3 => f_X12_goes_34  n x0 x1 x2 v3 s2)))
def f_X12_goes  (x0 : Nat) (x1 : Int32) (x2 : Int32) (σ : wg_M) : Option (Int32 × wg_M) := wg_st σ x0 0 (0 : Int32) (fun s1 => wg_bd (f_X12_isIn x0 x1 (1 : Int32) (60 : Int32) s1) (fun v2 s3 => if v2 = 0 then (some ((-1 : Int32), s3)) else (wg_bd (f_X12_isIn x0 x2 (0 : Int32) (3 : Int32) s3) (fun v4 s5 => if v4 = 0 then (some ((-1 : Int32), s5)) else (wg_bd (f_X12_thinks x0 s5) (fun _ s6 => f_X12_goes_34  wg_N x0 x1 x2 (0 : Int32) s6))))))
set_option maxRecDepth 20000 in
theorem g_X12_goes_139 (l : Launch) (E : wg_E) (k107 : Nat → Int32 → Int32 → Int32 → Int32 → Int32 → wg_M → Option (Int32 × wg_M)) (x0 : Nat) (x2 : Int32) (x3 : Int32) (x4 : Int32) (x5 : Int32) (x6 : Int32) (σ : wg_M) (z : Int32 × wg_M) (hx0 : wg_t Sm x0 = 14) (hk107 : ∀ (x0 : Nat) (x2 : Int32) (x3 : Int32) (x4 : Int32) (x5 : Int32) (x6 : Int32) (σ : wg_M), wg_t Sm x0 = 14 → k107 x0 x2 x3 x4 x5 x6 σ = some z → wg_G l E Sm "WornWigsModel" cX12_goes 7 (some .int) rm_X12_goes (some z.1) z.2 107 [some (.ref x0), none, some (.int x2), some (.int x3), some (.int x4), some (.int x5), some (.int x6)] [] σ) (h : f_X12_goes_139 k107 x0 x2 x3 x4 x5 x6 σ = some z) : wg_G l E Sm "WornWigsModel" cX12_goes 7 (some .int) rm_X12_goes (some z.1) z.2 139 [some (.ref x0), none, some (.int x2), some (.int x3), some (.int x4), some (.int x5), some (.int x6)] [] σ := by
  refine wr_iinc (c0 := (1 : Int32)) (wg_da dt_X12_goes 79 rfl) rfl (by decide) (by decide) h (fun v1 h => ?_)
  refine wr_goto 107 (wg_da dt_X12_goes 80 rfl) (by decide) ?_
  exact wr_wk [true, false, true, true, true, true, true] (hk107 x0 x2 x3 x4 x5 v1 σ hx0 h)
set_option maxRecDepth 20000 in
theorem g_X12_goes_181 (l : Launch) (E : wg_E)  (x0 : Nat) (t0 : Int32) (σ : wg_M) (z : Int32 × wg_M) (hx0 : wg_t Sm x0 = 14) (h : f_X12_goes_181  x0 t0 σ = some z) : wg_G l E Sm "WornWigsModel" cX12_goes 7 (some .int) rm_X12_goes (some z.1) z.2 181 [some (.ref x0), none, none, none, none, none, none] [.int t0] σ := by
  refine wr_istore (wg_da dt_X12_goes 99 rfl) (by decide) ?_
  refine wr_aload_n (wg_da dt_X12_goes 100 rfl) rfl ?_
  refine wr_callVv [] [] (wg_da dt_X12_goes 101 rfl) ⟨wq_9_1, wq_9_3, wq_p9_5⟩ hx0 ⟨rfl, by decide⟩ wy_X12_endsThought (fun q hq => m_X12_endsThought l E x0 hx0 _ q hq) rfl rfl (Nat.le_of_ble_eq_true rfl) ⟨rfl, rfl, by decide, by decide⟩ h (fun _ s1 h => ?_)
  refine wr_iload (wg_da dt_X12_goes 102 rfl) rfl ?_
  exact wr_iret (wg_da dt_X12_goes 103 rfl) h
set_option maxRecDepth 20000 in
theorem g_X12_goes_107 (l : Launch) (E : wg_E)  (z : Int32 × wg_M) : ∀ (n : Nat) (x0 : Nat) (x2 : Int32) (x3 : Int32) (x4 : Int32) (x5 : Int32) (x6 : Int32) (σ : wg_M) (hx0 : wg_t Sm x0 = 14) (h : f_X12_goes_107  n x0 x2 x3 x4 x5 x6 σ = some z), wg_G l E Sm "WornWigsModel" cX12_goes 7 (some .int) rm_X12_goes (some z.1) z.2 107 [some (.ref x0), none, some (.int x2), some (.int x3), some (.int x4), some (.int x5), some (.int x6)] [] σ := by
  intro n
  induction n with
  | zero => intro x0 x2 x3 x4 x5 x6 σ hx0 h; cases h
  | succ n ih =>
    intro x0 x2 x3 x4 x5 x6 σ hx0 h
    refine wr_iload (wg_da dt_X12_goes 63 rfl) rfl ?_
    refine wr_aload_n (wg_da dt_X12_goes 64 rfl) rfl ?_
    refine wr_getI wf_X12_131 (wg_da dt_X12_goes 65 rfl) hx0 ?_
    refine wr_icmp_ge 145 (wg_da dt_X12_goes 66 rfl) (by decide) h (fun h => ?_) (fun h => ?_)
    · refine wr_iload_n (wg_da dt_X12_goes 81 rfl) rfl ?_
      refine wr_if_ne 160 (wg_da dt_X12_goes 82 rfl) (by decide) h (fun h => ?_) (fun h => ?_)
      · refine wr_aload_n (wg_da dt_X12_goes 83 rfl) rfl ?_
        refine wr_aload_n (wg_da dt_X12_goes 84 rfl) rfl ?_
        refine wr_callVi [] [.ref x0] (wg_da dt_X12_goes 85 rfl) ⟨wq_8_233, wq_8_235, wq_p9_3⟩ hx0 ⟨rfl, by decide⟩ wy_X12_deadSet (fun q hq => m_X12_deadSet l E x0 hx0 _ q hq) rfl rfl (Nat.le_of_ble_eq_true rfl) ⟨rfl, rfl, by decide, by decide⟩ h (fun v1 s2 h => ?_)
        refine wr_callVi [.int v1] [] (wg_da dt_X12_goes 86 rfl) ⟨wq_8_237, wq_8_239, wq_p9_4⟩ hx0 ⟨rfl, by decide⟩ wy_X12_onesOf (fun q hq => m_X12_onesOf l E x0 v1 hx0 _ q hq) rfl rfl (Nat.le_of_ble_eq_true rfl) ⟨rfl, rfl, by decide, by decide⟩ h (fun v3 s4 h => ?_)
        refine wr_goto 181 (wg_da dt_X12_goes 87 rfl) (by decide) ?_
        exact wr_wk [true, false, false, false, false, false, false] (g_X12_goes_181 l E  x0 v3 s4 _ hx0  h)
      · refine wr_iload_n (wg_da dt_X12_goes 88 rfl) rfl ?_
        refine wr_iconst (1 : Int32) (wg_da dt_X12_goes 89 rfl) (by decide) ?_
        refine wr_icmp_ne 169 (wg_da dt_X12_goes 90 rfl) (by decide) h (fun h => ?_) (fun h => ?_)
        · refine wr_iload_n (wg_da dt_X12_goes 91 rfl) rfl ?_
          refine wr_goto 181 (wg_da dt_X12_goes 92 rfl) (by decide) ?_
          exact wr_wk [true, false, false, false, false, false, false] (g_X12_goes_181 l E  x0 x3 σ _ hx0  h)
        · refine wr_iload_n (wg_da dt_X12_goes 93 rfl) rfl ?_
          refine wr_iconst (2 : Int32) (wg_da dt_X12_goes 94 rfl) (by decide) ?_
          refine wr_icmp_ne 179 (wg_da dt_X12_goes 95 rfl) (by decide) h (fun h => ?_) (fun h => ?_)
          · refine wr_iload (wg_da dt_X12_goes 96 rfl) rfl ?_
            refine wr_goto 181 (wg_da dt_X12_goes 97 rfl) (by decide) ?_
            exact wr_wk [true, false, false, false, false, false, false] (g_X12_goes_181 l E  x0 x4 σ _ hx0  h)
          · refine wr_iload (wg_da dt_X12_goes 98 rfl) rfl ?_
            exact wr_wk [true, false, false, false, false, false, false] (g_X12_goes_181 l E  x0 x5 σ _ hx0  h)
    · refine wr_aload_n (wg_da dt_X12_goes 67 rfl) rfl ?_
      refine wr_getR wf_X12_7 (wg_da dt_X12_goes 68 rfl) hx0 ?_
      refine wr_sipush (267 : Int32) (wg_da dt_X12_goes 69 rfl) (by decide) ?_
      refine wr_iload (wg_da dt_X12_goes 70 rfl) rfl ?_
      refine wr_iadd (wg_da dt_X12_goes 71 rfl) ?_
      refine wr_iald (wg_da dt_X12_goes 72 rfl) (wg_ty Sm_ok 12 1 0 hx0 rfl (by decide)).2 h (fun v5 h => ?_)
      refine wr_sipush (1000 : Int32) (wg_da dt_X12_goes 73 rfl) (by decide) ?_
      refine wr_icmp_le 139 (wg_da dt_X12_goes 74 rfl) (by decide) h (fun h => ?_) (fun h => ?_)
      · exact wr_wk [true, false, true, true, true, true, true] (g_X12_goes_139 l E (f_X12_goes_107  n) x0 x2 x3 x4 x5 x6 σ _ hx0 (fun x0 x2 x3 x4 x5 x6 σ hx0 h => ih x0 x2 x3 x4 x5 x6 σ hx0 h) h)
      · refine wr_iload (wg_da dt_X12_goes 75 rfl) rfl ?_
        refine wr_iconst (1 : Int32) (wg_da dt_X12_goes 76 rfl) (by decide) ?_
        refine wr_iadd (wg_da dt_X12_goes 77 rfl) ?_
        refine wr_let h (fun v6 h => ?_)
        refine wr_istore (wg_da dt_X12_goes 78 rfl) (by decide) ?_
        exact wr_wk [true, false, true, true, true, true, true] (g_X12_goes_139 l E (f_X12_goes_107  n) x0 x2 x3 x4 v6 x6 σ _ hx0 (fun x0 x2 x3 x4 x5 x6 σ hx0 h => ih x0 x2 x3 x4 x5 x6 σ hx0 h) h)
set_option maxRecDepth 20000 in
theorem g_X12_goes_61 (l : Launch) (E : wg_E)  (z : Int32 × wg_M) : ∀ (n : Nat) (x0 : Nat) (x2 : Int32) (x3 : Int32) (x4 : Int32) (x5 : Int32) (x6 : Int32) (σ : wg_M) (hx0 : wg_t Sm x0 = 14) (h : f_X12_goes_61  n x0 x2 x3 x4 x5 x6 σ = some z), wg_G l E Sm "WornWigsModel" cX12_goes 7 (some .int) rm_X12_goes (some z.1) z.2 61 [some (.ref x0), none, some (.int x2), some (.int x3), some (.int x4), some (.int x5), some (.int x6)] [] σ := by
  intro n
  induction n with
  | zero => intro x0 x2 x3 x4 x5 x6 σ hx0 h; cases h
  | succ n ih =>
    intro x0 x2 x3 x4 x5 x6 σ hx0 h
    refine wr_iload (wg_da dt_X12_goes 37 rfl) rfl ?_
    refine wr_aload_n (wg_da dt_X12_goes 38 rfl) rfl ?_
    refine wr_getI wf_X12_125 (wg_da dt_X12_goes 39 rfl) hx0 ?_
    refine wr_icmp_ge 104 (wg_da dt_X12_goes 40 rfl) (by decide) h (fun h => ?_) (fun h => ?_)
    · refine wr_iconst (0 : Int32) (wg_da dt_X12_goes 61 rfl) (by decide) ?_
      refine wr_istore (wg_da dt_X12_goes 62 rfl) (by decide) ?_
      exact wr_wk [true, false, true, true, true, true, true] (g_X12_goes_107 l E  _  wg_N x0 x2 x3 x4 x5 (0 : Int32) σ hx0 h)
    · refine wr_iload_n (wg_da dt_X12_goes 41 rfl) rfl ?_
      refine wr_aload_n (wg_da dt_X12_goes 42 rfl) rfl ?_
      refine wr_getR wf_X12_7 (wg_da dt_X12_goes 43 rfl) hx0 ?_
      refine wr_bipush (67 : Int32) (wg_da dt_X12_goes 44 rfl) (by decide) ?_
      refine wr_iload (wg_da dt_X12_goes 45 rfl) rfl ?_
      refine wr_iadd (wg_da dt_X12_goes 46 rfl) ?_
      refine wr_iald (wg_da dt_X12_goes 47 rfl) (wg_ty Sm_ok 12 1 0 hx0 rfl (by decide)).2 h (fun v1 h => ?_)
      refine wr_iadd (wg_da dt_X12_goes 48 rfl) ?_
      refine wr_let h (fun v2 h => ?_)
      refine wr_istore_n (wg_da dt_X12_goes 49 rfl) (by decide) ?_
      refine wr_iload (wg_da dt_X12_goes 50 rfl) rfl ?_
      refine wr_aload_n (wg_da dt_X12_goes 51 rfl) rfl ?_
      refine wr_getR wf_X12_7 (wg_da dt_X12_goes 52 rfl) hx0 ?_
      refine wr_bipush (43 : Int32) (wg_da dt_X12_goes 53 rfl) (by decide) ?_
      refine wr_iload (wg_da dt_X12_goes 54 rfl) rfl ?_
      refine wr_iadd (wg_da dt_X12_goes 55 rfl) ?_
      refine wr_iald (wg_da dt_X12_goes 56 rfl) (wg_ty Sm_ok 12 1 0 hx0 rfl (by decide)).2 h (fun v3 h => ?_)
      refine wr_iadd (wg_da dt_X12_goes 57 rfl) ?_
      refine wr_let h (fun v4 h => ?_)
      refine wr_istore (wg_da dt_X12_goes 58 rfl) (by decide) ?_
      refine wr_iinc (c0 := (1 : Int32)) (wg_da dt_X12_goes 59 rfl) rfl (by decide) (by decide) h (fun v5 h => ?_)
      refine wr_goto 61 (wg_da dt_X12_goes 60 rfl) (by decide) ?_
      exact wr_wk [true, false, true, true, true, true, true] (ih x0 x2 v2 v4 x5 v5 σ hx0 h)
set_option maxRecDepth 20000 in
theorem g_X12_goes_34 (l : Launch) (E : wg_E)  (z : Int32 × wg_M) : ∀ (n : Nat) (x0 : Nat) (x1 : Int32) (x2 : Int32) (x3 : Int32) (σ : wg_M) (hx0 : wg_t Sm x0 = 14) (h : f_X12_goes_34  n x0 x1 x2 x3 σ = some z), wg_G l E Sm "WornWigsModel" cX12_goes 7 (some .int) rm_X12_goes (some z.1) z.2 34 [some (.ref x0), some (.int x1), some (.int x2), some (.int x3), none, none, none] [] σ := by
  intro n
  induction n with
  | zero => intro x0 x1 x2 x3 σ hx0 h; cases h
  | succ n ih =>
    intro x0 x1 x2 x3 σ hx0 h
    refine wr_iload_n (wg_da dt_X12_goes 21 rfl) rfl ?_
    refine wr_iload_n (wg_da dt_X12_goes 22 rfl) rfl ?_
    refine wr_icmp_ge 50 (wg_da dt_X12_goes 23 rfl) (by decide) h (fun h => ?_) (fun h => ?_)
    · refine wr_iconst (0 : Int32) (wg_da dt_X12_goes 29 rfl) (by decide) ?_
      refine wr_istore_n (wg_da dt_X12_goes 30 rfl) (by decide) ?_
      refine wr_iconst (0 : Int32) (wg_da dt_X12_goes 31 rfl) (by decide) ?_
      refine wr_istore (wg_da dt_X12_goes 32 rfl) (by decide) ?_
      refine wr_iconst (0 : Int32) (wg_da dt_X12_goes 33 rfl) (by decide) ?_
      refine wr_istore (wg_da dt_X12_goes 34 rfl) (by decide) ?_
      refine wr_iconst (0 : Int32) (wg_da dt_X12_goes 35 rfl) (by decide) ?_
      refine wr_istore (wg_da dt_X12_goes 36 rfl) (by decide) ?_
      exact wr_wk [true, false, true, true, true, true, true] (g_X12_goes_61 l E  _  wg_N x0 x2 (0 : Int32) (0 : Int32) (0 : Int32) (0 : Int32) σ hx0 h)
    · refine wr_aload_n (wg_da dt_X12_goes 24 rfl) rfl ?_
      refine wr_callVi [] [] (wg_da dt_X12_goes 25 rfl) ⟨wq_8_170, wq_8_172, wq_p8_10⟩ hx0 ⟨rfl, by decide⟩ wy_X12_goesBy (fun q hq => m_X12_goesBy l E x0 hx0 _ q hq) rfl rfl (Nat.le_of_ble_eq_true rfl) ⟨rfl, rfl, by decide, by decide⟩ h (fun v1 s2 h => ?_)
      refine wr_pop (wg_da dt_X12_goes 26 rfl) ?_
      refine wr_iinc (c0 := (1 : Int32)) (wg_da dt_X12_goes 27 rfl) rfl (by decide) (by decide) h (fun v3 h => ?_)
      refine wr_goto 34 (wg_da dt_X12_goes 28 rfl) (by decide) ?_
      exact wr_wk [true, true, true, true, false, false, false] (ih x0 x1 x2 v3 s2 hx0 h)
set_option maxRecDepth 20000 in
theorem g_X12_goes_e (l : Launch) (E : wg_E)  (x0 : Nat) (x1 : Int32) (x2 : Int32) (σ : wg_M) (z : Int32 × wg_M) (hx0 : wg_t Sm x0 = 14) (h : f_X12_goes  x0 x1 x2 σ = some z) : wg_G l E Sm "WornWigsModel" cX12_goes 7 (some .int) rm_X12_goes (some z.1) z.2 0 [some (.ref x0), some (.int x1), some (.int x2), none, none, none, none] [] σ := by
  refine wr_aload_n (wg_da dt_X12_goes 0 rfl) rfl ?_
  refine wr_iconst (0 : Int32) (wg_da dt_X12_goes 1 rfl) (by decide) ?_
  refine wr_putI wfp_X12_113 (wg_da dt_X12_goes 2 rfl) hx0 h (fun s1 h => ?_)
  refine wr_aload_n (wg_da dt_X12_goes 3 rfl) rfl ?_
  refine wr_iload_n (wg_da dt_X12_goes 4 rfl) rfl ?_
  refine wr_iconst (1 : Int32) (wg_da dt_X12_goes 5 rfl) (by decide) ?_
  refine wr_bipush (60 : Int32) (wg_da dt_X12_goes 6 rfl) (by decide) ?_
  refine wr_callVi [.int x1, .int (1 : Int32), .int (60 : Int32)] [] (wg_da dt_X12_goes 7 rfl) ⟨wq_7_82, wq_7_84, wq_p4_3⟩ hx0 ⟨rfl, by decide⟩ wy_X12_isIn (fun q hq => m_X12_isIn l E x0 x1 (1 : Int32) (60 : Int32) hx0 _ q hq) rfl rfl (Nat.le_of_ble_eq_true rfl) ⟨rfl, rfl, by decide, by decide⟩ h (fun v2 s3 h => ?_)
  refine wr_if_eq 26 (wg_da dt_X12_goes 8 rfl) (by decide) h (fun h => ?_) (fun h => ?_)
  · refine wr_iconst (-1 : Int32) (wg_da dt_X12_goes 15 rfl) (by decide) ?_
    exact wr_iret (wg_da dt_X12_goes 16 rfl) h
  · refine wr_aload_n (wg_da dt_X12_goes 9 rfl) rfl ?_
    refine wr_iload_n (wg_da dt_X12_goes 10 rfl) rfl ?_
    refine wr_iconst (0 : Int32) (wg_da dt_X12_goes 11 rfl) (by decide) ?_
    refine wr_iconst (3 : Int32) (wg_da dt_X12_goes 12 rfl) (by decide) ?_
    refine wr_callVi [.int x2, .int (0 : Int32), .int (3 : Int32)] [] (wg_da dt_X12_goes 13 rfl) ⟨wq_7_82, wq_7_84, wq_p4_3⟩ hx0 ⟨rfl, by decide⟩ wy_X12_isIn (fun q hq => m_X12_isIn l E x0 x2 (0 : Int32) (3 : Int32) hx0 _ q hq) rfl rfl (Nat.le_of_ble_eq_true rfl) ⟨rfl, rfl, by decide, by decide⟩ h (fun v4 s5 h => ?_)
    refine wr_if_ne 28 (wg_da dt_X12_goes 14 rfl) (by decide) h (fun h => ?_) (fun h => ?_)
    · refine wr_iconst (-1 : Int32) (wg_da dt_X12_goes 15 rfl) (by decide) ?_
      exact wr_iret (wg_da dt_X12_goes 16 rfl) h
    · refine wr_aload_n (wg_da dt_X12_goes 17 rfl) rfl ?_
      refine wr_callVv [] [] (wg_da dt_X12_goes 18 rfl) ⟨wq_8_229, wq_8_231, wq_p9_2⟩ hx0 ⟨rfl, by decide⟩ wy_X12_thinks (fun q hq => m_X12_thinks l E x0 hx0 _ q hq) rfl rfl (Nat.le_of_ble_eq_true rfl) ⟨rfl, rfl, by decide, by decide⟩ h (fun _ s6 h => ?_)
      refine wr_iconst (0 : Int32) (wg_da dt_X12_goes 19 rfl) (by decide) ?_
      refine wr_istore_n (wg_da dt_X12_goes 20 rfl) (by decide) ?_
      exact wr_wk [true, true, true, true, false, false, false] (g_X12_goes_34 l E  _  wg_N x0 x1 x2 (0 : Int32) s6 hx0 h)
theorem m_X12_goes (l : Launch) (E : wg_E) (x0 : Nat) (x1 : Int32) (x2 : Int32) (hx0 : wg_t Sm x0 = 14) (σ : wg_M) (q : Int32 × wg_M) (h : f_X12_goes x0 x1 x2 σ = some q) : wg_MG l E Sm yX12_goes cX12_goes 7 (some .int) rm_X12_goes [.ref x0, .int x1, .int x2] σ (some q.1) q.2 :=
  wg_met [.ref x0, .int x1, .int x2] (plainFor_of_name (by decide)) (Nat.le_of_ble_eq_true rfl) (g_X12_goes_e l E x0 x1 x2 σ q hx0 h)
abbrev rm_X12_would : Room := { frames := 6, cells := 0, slots := 0, locals := 142 }
def tb_X12_would : List (Nat × Instr × Nat) := [(0, .aload_n 0, 1), (1, .iconst 0, 1), (2, .putfield 113, 3), (5, .aload_n 0, 1), (6, .iload_n 1, 1), (7, .invokevirtual 167, 3), (10, .ifCond .eq 28, 3), (13, .aload_n 0, 1), (14, .iload_n 2, 1), (15, .invokevirtual 164, 3), (18, .ifCond .eq 20, 3), (21, .aload_n 0, 1), (22, .iload_n 2, 1), (23, .invokevirtual 354, 3), (26, .ifCond .eq 12, 3), (29, .aload_n 0, 1), (30, .iload_n 1, 1), (31, .iload_n 2, 1), (32, .invokevirtual 357, 3), (35, .goto 6, 3), (38, .sipush (-10000), 3), (41, .ireturn, 1)]
theorem dt_X12_would : wg_dc cX12_would tb_X12_would := by unfold wg_dc; decide +kernel
def f_X12_would  (x0 : Nat) (x1 : Int32) (x2 : Int32) (σ : wg_M) : Option (Int32 × wg_M) := wg_st σ x0 0 (0 : Int32) (fun s1 => wg_bd (f_X12_isTrial x0 x1 s1) (fun v2 s3 => if v2 = 0 then (some ((-10000 : Int32), s3)) else (wg_bd (f_X12_isJudge x0 x2 s3) (fun v4 s5 => if v4 = 0 then (some ((-10000 : Int32), s5)) else (wg_bd (f_X12_isAlive x0 x2 s5) (fun v6 s7 => if v6 = 0 then (some ((-10000 : Int32), s7)) else (wg_bd (f_X12_verdictOf x0 x1 x2 s7) (fun v8 s9 => some (v8, s9)))))))))
set_option maxRecDepth 20000 in
theorem g_X12_would_e (l : Launch) (E : wg_E)  (x0 : Nat) (x1 : Int32) (x2 : Int32) (σ : wg_M) (z : Int32 × wg_M) (hx0 : wg_t Sm x0 = 14) (h : f_X12_would  x0 x1 x2 σ = some z) : wg_G l E Sm "WornWigsModel" cX12_would 3 (some .int) rm_X12_would (some z.1) z.2 0 [some (.ref x0), some (.int x1), some (.int x2)] [] σ := by
  refine wr_aload_n (wg_da dt_X12_would 0 rfl) rfl ?_
  refine wr_iconst (0 : Int32) (wg_da dt_X12_would 1 rfl) (by decide) ?_
  refine wr_putI wfp_X12_113 (wg_da dt_X12_would 2 rfl) hx0 h (fun s1 h => ?_)
  refine wr_aload_n (wg_da dt_X12_would 3 rfl) rfl ?_
  refine wr_iload_n (wg_da dt_X12_would 4 rfl) rfl ?_
  refine wr_callVi [.int x1] [] (wg_da dt_X12_would 5 rfl) ⟨wq_7_134, wq_7_136, wq_p4_12⟩ hx0 ⟨rfl, by decide⟩ wy_X12_isTrial (fun q hq => m_X12_isTrial l E x0 x1 hx0 _ q hq) rfl rfl (Nat.le_of_ble_eq_true rfl) ⟨rfl, rfl, by decide, by decide⟩ h (fun v2 s3 h => ?_)
  refine wr_if_eq 38 (wg_da dt_X12_would 6 rfl) (by decide) h (fun h => ?_) (fun h => ?_)
  · refine wr_sipush (-10000 : Int32) (wg_da dt_X12_would 20 rfl) (by decide) ?_
    exact wr_iret (wg_da dt_X12_would 21 rfl) h
  · refine wr_aload_n (wg_da dt_X12_would 7 rfl) rfl ?_
    refine wr_iload_n (wg_da dt_X12_would 8 rfl) rfl ?_
    refine wr_callVi [.int x2] [] (wg_da dt_X12_would 9 rfl) ⟨wq_7_130, wq_7_132, wq_p4_11⟩ hx0 ⟨rfl, by decide⟩ wy_X12_isJudge (fun q hq => m_X12_isJudge l E x0 x2 hx0 _ q hq) rfl rfl (Nat.le_of_ble_eq_true rfl) ⟨rfl, rfl, by decide, by decide⟩ h (fun v4 s5 h => ?_)
    refine wr_if_eq 38 (wg_da dt_X12_would 10 rfl) (by decide) h (fun h => ?_) (fun h => ?_)
    · refine wr_sipush (-10000 : Int32) (wg_da dt_X12_would 20 rfl) (by decide) ?_
      exact wr_iret (wg_da dt_X12_would 21 rfl) h
    · refine wr_aload_n (wg_da dt_X12_would 11 rfl) rfl ?_
      refine wr_iload_n (wg_da dt_X12_would 12 rfl) rfl ?_
      refine wr_callVi [.int x2] [] (wg_da dt_X12_would 13 rfl) ⟨wq_8_62, wq_8_64, wq_p7_1⟩ hx0 ⟨rfl, by decide⟩ wy_X12_isAlive (fun q hq => m_X12_isAlive l E x0 x2 hx0 _ q hq) rfl rfl (Nat.le_of_ble_eq_true rfl) ⟨rfl, rfl, by decide, by decide⟩ h (fun v6 s7 h => ?_)
      refine wr_if_eq 38 (wg_da dt_X12_would 14 rfl) (by decide) h (fun h => ?_) (fun h => ?_)
      · refine wr_sipush (-10000 : Int32) (wg_da dt_X12_would 20 rfl) (by decide) ?_
        exact wr_iret (wg_da dt_X12_would 21 rfl) h
      · refine wr_aload_n (wg_da dt_X12_would 15 rfl) rfl ?_
        refine wr_iload_n (wg_da dt_X12_would 16 rfl) rfl ?_
        refine wr_iload_n (wg_da dt_X12_would 17 rfl) rfl ?_
        refine wr_callVi [.int x1, .int x2] [] (wg_da dt_X12_would 18 rfl) ⟨wq_8_74, wq_8_76, wq_p7_4⟩ hx0 ⟨rfl, by decide⟩ wy_X12_verdictOf (fun q hq => m_X12_verdictOf l E x0 x1 x2 hx0 _ q hq) rfl rfl (Nat.le_of_ble_eq_true rfl) ⟨rfl, rfl, by decide, by decide⟩ h (fun v8 s9 h => ?_)
        refine wr_goto 41 (wg_da dt_X12_would 19 rfl) (by decide) ?_
        exact wr_iret (wg_da dt_X12_would 21 rfl) h
theorem m_X12_would (l : Launch) (E : wg_E) (x0 : Nat) (x1 : Int32) (x2 : Int32) (hx0 : wg_t Sm x0 = 14) (σ : wg_M) (q : Int32 × wg_M) (h : f_X12_would x0 x1 x2 σ = some q) : wg_MG l E Sm yX12_would cX12_would 3 (some .int) rm_X12_would [.ref x0, .int x1, .int x2] σ (some q.1) q.2 :=
  wg_met [.ref x0, .int x1, .int x2] (plainFor_of_name (by decide)) (Nat.le_of_ble_eq_true rfl) (g_X12_would_e l E x0 x1 x2 σ q hx0 h)
abbrev rm_X12_forum : Room := { frames := 6, cells := 0, slots := 0, locals := 142 }
def tb_X12_forum : List (Nat × Instr × Nat) := [(0, .aload_n 0, 1), (1, .iconst 0, 1), (2, .putfield 113, 3), (5, .aload_n 0, 1), (6, .iload_n 1, 1), (7, .invokevirtual 167, 3), (10, .ifCond .eq 13, 3), (13, .aload_n 0, 1), (14, .iload_n 2, 1), (15, .iconst 0, 1), (16, .iconst 1, 1), (17, .invokevirtual 153, 3), (20, .ifCond .ne 5, 3), (23, .iconst (-1), 1), (24, .ireturn, 1), (25, .iconst (-1), 1), (26, .istore_n 3, 1), (27, .iconst 0, 1), (28, .istore 4, 2), (30, .iload 4, 2), (32, .aload_n 0, 1), (33, .getfield 128, 3), (36, .if_icmp .ge 70, 3), (39, .aload_n 0, 1), (40, .iload 4, 2), (42, .invokevirtual 354, 3), (45, .ifCond .ne 6, 3), (48, .goto 52, 3), (51, .iload_n 3, 1), (52, .iconst (-1), 1), (53, .if_icmp .eq 44, 3), (56, .iload_n 2, 1), (57, .ifCond .ne 19, 3), (60, .aload_n 0, 1), (61, .iload_n 1, 1), (62, .iload 4, 2), (64, .invokevirtual 357, 3), (67, .aload_n 0, 1), (68, .iload_n 1, 1), (69, .iload_n 3, 1), (70, .invokevirtual 357, 3), (73, .if_icmp .gt 24, 3), (76, .iload_n 2, 1), (77, .iconst 1, 1), (78, .if_icmp .ne 22, 3), (81, .aload_n 0, 1), (82, .iload_n 1, 1), (83, .iload 4, 2), (85, .invokevirtual 357, 3), (88, .aload_n 0, 1), (89, .iload_n 1, 1), (90, .iload_n 3, 1), (91, .invokevirtual 357, 3), (94, .if_icmp .ge 6, 3), (97, .iload 4, 2), (99, .istore_n 3, 1), (100, .iinc 4 1, 3), (103, .goto (-73), 3), (106, .iload_n 3, 1), (107, .ireturn, 1)]
theorem dt_X12_forum : wg_dc cX12_forum tb_X12_forum := by unfold wg_dc; decide +kernel
def f_X12_forum_100 (k30 : Nat → Int32 → Int32 → Int32 → Int32 → wg_M → Option (Int32 × wg_M)) (x0 : Nat) (x1 : Int32) (x2 : Int32) (x3 : Int32) (x4 : Int32) (σ : wg_M) : Option (Int32 × wg_M) := wg_let (x4 + (1 : Int32)) (fun v1 => k30 x0 x1 x2 x3 v1 σ)
def f_X12_forum_97 (k30 : Nat → Int32 → Int32 → Int32 → Int32 → wg_M → Option (Int32 × wg_M)) (x0 : Nat) (x1 : Int32) (x2 : Int32) (x4 : Int32) (σ : wg_M) : Option (Int32 × wg_M) := f_X12_forum_100 k30 x0 x1 x2 x4 x4 σ
def f_X12_forum_76 (k30 : Nat → Int32 → Int32 → Int32 → Int32 → wg_M → Option (Int32 × wg_M)) (x0 : Nat) (x1 : Int32) (x2 : Int32) (x3 : Int32) (x4 : Int32) (σ : wg_M) : Option (Int32 × wg_M) := if x2 = (1 : Int32) then (wg_bd (f_X12_verdictOf x0 x1 x4 σ) (fun v1 s2 => wg_bd (f_X12_verdictOf x0 x1 x3 s2) (fun v3 s4 => if v3 ≤ v1 then (f_X12_forum_100 k30 x0 x1 x2 x3 x4 s4) else (f_X12_forum_97 k30 x0 x1 x2 x4 s4)))) else (f_X12_forum_100 k30 x0 x1 x2 x3 x4 σ)
def f_X12_forum_30  : Nat → Nat → Int32 → Int32 → Int32 → Int32 → wg_M → Option (Int32 × wg_M)
  | 0, _, _, _, _, _, _ => none
  | n + 1, x0, x1, x2, x3, x4, σ => if (σ x0 7) ≤ x4 then (some (x3, σ)) else (wg_bd (f_X12_isAlive x0 x4 σ) (fun v1 s2 => if v1 = 0 then (f_X12_forum_100 (f_X12_forum_30  n) x0 x1 x2 x3 x4 s2) else (if x3 = (-1 : Int32) then (f_X12_forum_97 (f_X12_forum_30  n) x0 x1 x2 x4 s2) else (if x2 = 0 then (wg_bd (f_X12_verdictOf x0 x1 x4 s2) (fun v3 s4 => wg_bd (f_X12_verdictOf x0 x1 x3 s4) (fun v5 s6 => if v5 < v3 then (f_X12_forum_97 (f_X12_forum_30  n) x0 x1 x2 x4 s6) else (f_X12_forum_76 (f_X12_forum_30  n) x0 x1 x2 x3 x4 s6)))) else (f_X12_forum_76 (f_X12_forum_30  n) x0 x1 x2 x3 x4 s2)))))
def f_X12_forum  (x0 : Nat) (x1 : Int32) (x2 : Int32) (σ : wg_M) : Option (Int32 × wg_M) := wg_st σ x0 0 (0 : Int32) (fun s1 => wg_bd (f_X12_isTrial x0 x1 s1) (fun v2 s3 => if v2 = 0 then (some ((-1 : Int32), s3)) else (wg_bd (f_X12_isIn x0 x2 (0 : Int32) (1 : Int32) s3) (fun v4 s5 => if v4 = 0 then (some ((-1 : Int32), s5)) else (f_X12_forum_30  wg_N x0 x1 x2 (-1 : Int32) (0 : Int32) s5)))))
set_option maxRecDepth 20000 in
theorem g_X12_forum_100 (l : Launch) (E : wg_E) (k30 : Nat → Int32 → Int32 → Int32 → Int32 → wg_M → Option (Int32 × wg_M)) (x0 : Nat) (x1 : Int32) (x2 : Int32) (x3 : Int32) (x4 : Int32) (σ : wg_M) (z : Int32 × wg_M) (hx0 : wg_t Sm x0 = 14) (hk30 : ∀ (x0 : Nat) (x1 : Int32) (x2 : Int32) (x3 : Int32) (x4 : Int32) (σ : wg_M), wg_t Sm x0 = 14 → k30 x0 x1 x2 x3 x4 σ = some z → wg_G l E Sm "WornWigsModel" cX12_forum 5 (some .int) rm_X12_forum (some z.1) z.2 30 [some (.ref x0), some (.int x1), some (.int x2), some (.int x3), some (.int x4)] [] σ) (h : f_X12_forum_100 k30 x0 x1 x2 x3 x4 σ = some z) : wg_G l E Sm "WornWigsModel" cX12_forum 5 (some .int) rm_X12_forum (some z.1) z.2 100 [some (.ref x0), some (.int x1), some (.int x2), some (.int x3), some (.int x4)] [] σ := by
  refine wr_iinc (c0 := (1 : Int32)) (wg_da dt_X12_forum 56 rfl) rfl (by decide) (by decide) h (fun v1 h => ?_)
  refine wr_goto 30 (wg_da dt_X12_forum 57 rfl) (by decide) ?_
  exact wr_wk [true, true, true, true, true] (hk30 x0 x1 x2 x3 v1 σ hx0 h)
set_option maxRecDepth 20000 in
theorem g_X12_forum_97 (l : Launch) (E : wg_E) (k30 : Nat → Int32 → Int32 → Int32 → Int32 → wg_M → Option (Int32 × wg_M)) (x0 : Nat) (x1 : Int32) (x2 : Int32) (x4 : Int32) (σ : wg_M) (z : Int32 × wg_M) (hx0 : wg_t Sm x0 = 14) (hk30 : ∀ (x0 : Nat) (x1 : Int32) (x2 : Int32) (x3 : Int32) (x4 : Int32) (σ : wg_M), wg_t Sm x0 = 14 → k30 x0 x1 x2 x3 x4 σ = some z → wg_G l E Sm "WornWigsModel" cX12_forum 5 (some .int) rm_X12_forum (some z.1) z.2 30 [some (.ref x0), some (.int x1), some (.int x2), some (.int x3), some (.int x4)] [] σ) (h : f_X12_forum_97 k30 x0 x1 x2 x4 σ = some z) : wg_G l E Sm "WornWigsModel" cX12_forum 5 (some .int) rm_X12_forum (some z.1) z.2 97 [some (.ref x0), some (.int x1), some (.int x2), none, some (.int x4)] [] σ := by
  refine wr_iload (wg_da dt_X12_forum 54 rfl) rfl ?_
  refine wr_istore_n (wg_da dt_X12_forum 55 rfl) (by decide) ?_
  exact wr_wk [true, true, true, true, true] (g_X12_forum_100 l E k30 x0 x1 x2 x4 x4 σ _ hx0 hk30 h)
set_option maxRecDepth 20000 in
theorem g_X12_forum_76 (l : Launch) (E : wg_E) (k30 : Nat → Int32 → Int32 → Int32 → Int32 → wg_M → Option (Int32 × wg_M)) (x0 : Nat) (x1 : Int32) (x2 : Int32) (x3 : Int32) (x4 : Int32) (σ : wg_M) (z : Int32 × wg_M) (hx0 : wg_t Sm x0 = 14) (hk30 : ∀ (x0 : Nat) (x1 : Int32) (x2 : Int32) (x3 : Int32) (x4 : Int32) (σ : wg_M), wg_t Sm x0 = 14 → k30 x0 x1 x2 x3 x4 σ = some z → wg_G l E Sm "WornWigsModel" cX12_forum 5 (some .int) rm_X12_forum (some z.1) z.2 30 [some (.ref x0), some (.int x1), some (.int x2), some (.int x3), some (.int x4)] [] σ) (h : f_X12_forum_76 k30 x0 x1 x2 x3 x4 σ = some z) : wg_G l E Sm "WornWigsModel" cX12_forum 5 (some .int) rm_X12_forum (some z.1) z.2 76 [some (.ref x0), some (.int x1), some (.int x2), some (.int x3), some (.int x4)] [] σ := by
  refine wr_iload_n (wg_da dt_X12_forum 42 rfl) rfl ?_
  refine wr_iconst (1 : Int32) (wg_da dt_X12_forum 43 rfl) (by decide) ?_
  refine wr_icmp_ne 100 (wg_da dt_X12_forum 44 rfl) (by decide) h (fun h => ?_) (fun h => ?_)
  · refine wr_aload_n (wg_da dt_X12_forum 45 rfl) rfl ?_
    refine wr_iload_n (wg_da dt_X12_forum 46 rfl) rfl ?_
    refine wr_iload (wg_da dt_X12_forum 47 rfl) rfl ?_
    refine wr_callVi [.int x1, .int x4] [] (wg_da dt_X12_forum 48 rfl) ⟨wq_8_74, wq_8_76, wq_p7_4⟩ hx0 ⟨rfl, by decide⟩ wy_X12_verdictOf (fun q hq => m_X12_verdictOf l E x0 x1 x4 hx0 _ q hq) rfl rfl (Nat.le_of_ble_eq_true rfl) ⟨rfl, rfl, by decide, by decide⟩ h (fun v1 s2 h => ?_)
    refine wr_aload_n (wg_da dt_X12_forum 49 rfl) rfl ?_
    refine wr_iload_n (wg_da dt_X12_forum 50 rfl) rfl ?_
    refine wr_iload_n (wg_da dt_X12_forum 51 rfl) rfl ?_
    refine wr_callVi [.int x1, .int x3] [.int v1] (wg_da dt_X12_forum 52 rfl) ⟨wq_8_74, wq_8_76, wq_p7_4⟩ hx0 ⟨rfl, by decide⟩ wy_X12_verdictOf (fun q hq => m_X12_verdictOf l E x0 x1 x3 hx0 _ q hq) rfl rfl (Nat.le_of_ble_eq_true rfl) ⟨rfl, rfl, by decide, by decide⟩ h (fun v3 s4 h => ?_)
    refine wr_icmp_ge 100 (wg_da dt_X12_forum 53 rfl) (by decide) h (fun h => ?_) (fun h => ?_)
    · exact wr_wk [true, true, true, true, true] (g_X12_forum_100 l E k30 x0 x1 x2 x3 x4 s4 _ hx0 hk30 h)
    · exact wr_wk [true, true, true, false, true] (g_X12_forum_97 l E k30 x0 x1 x2 x4 s4 _ hx0 hk30 h)
  · exact wr_wk [true, true, true, true, true] (g_X12_forum_100 l E k30 x0 x1 x2 x3 x4 σ _ hx0 hk30 h)
set_option maxRecDepth 20000 in
theorem g_X12_forum_30 (l : Launch) (E : wg_E)  (z : Int32 × wg_M) : ∀ (n : Nat) (x0 : Nat) (x1 : Int32) (x2 : Int32) (x3 : Int32) (x4 : Int32) (σ : wg_M) (hx0 : wg_t Sm x0 = 14) (h : f_X12_forum_30  n x0 x1 x2 x3 x4 σ = some z), wg_G l E Sm "WornWigsModel" cX12_forum 5 (some .int) rm_X12_forum (some z.1) z.2 30 [some (.ref x0), some (.int x1), some (.int x2), some (.int x3), some (.int x4)] [] σ := by
  intro n
  induction n with
  | zero => intro x0 x1 x2 x3 x4 σ hx0 h; cases h
  | succ n ih =>
    intro x0 x1 x2 x3 x4 σ hx0 h
    refine wr_iload (wg_da dt_X12_forum 19 rfl) rfl ?_
    refine wr_aload_n (wg_da dt_X12_forum 20 rfl) rfl ?_
    refine wr_getI wf_X12_128 (wg_da dt_X12_forum 21 rfl) hx0 ?_
    refine wr_icmp_ge 106 (wg_da dt_X12_forum 22 rfl) (by decide) h (fun h => ?_) (fun h => ?_)
    · refine wr_iload_n (wg_da dt_X12_forum 58 rfl) rfl ?_
      exact wr_iret (wg_da dt_X12_forum 59 rfl) h
    · refine wr_aload_n (wg_da dt_X12_forum 23 rfl) rfl ?_
      refine wr_iload (wg_da dt_X12_forum 24 rfl) rfl ?_
      refine wr_callVi [.int x4] [] (wg_da dt_X12_forum 25 rfl) ⟨wq_8_62, wq_8_64, wq_p7_1⟩ hx0 ⟨rfl, by decide⟩ wy_X12_isAlive (fun q hq => m_X12_isAlive l E x0 x4 hx0 _ q hq) rfl rfl (Nat.le_of_ble_eq_true rfl) ⟨rfl, rfl, by decide, by decide⟩ h (fun v1 s2 h => ?_)
      refine wr_if_ne 51 (wg_da dt_X12_forum 26 rfl) (by decide) h (fun h => ?_) (fun h => ?_)
      · refine wr_goto 100 (wg_da dt_X12_forum 27 rfl) (by decide) ?_
        exact wr_wk [true, true, true, true, true] (g_X12_forum_100 l E (f_X12_forum_30  n) x0 x1 x2 x3 x4 s2 _ hx0 (fun x0 x1 x2 x3 x4 σ hx0 h => ih x0 x1 x2 x3 x4 σ hx0 h) h)
      · refine wr_iload_n (wg_da dt_X12_forum 28 rfl) rfl ?_
        refine wr_iconst (-1 : Int32) (wg_da dt_X12_forum 29 rfl) (by decide) ?_
        refine wr_icmp_eq 97 (wg_da dt_X12_forum 30 rfl) (by decide) h (fun h => ?_) (fun h => ?_)
        · exact wr_wk [true, true, true, false, true] (g_X12_forum_97 l E (f_X12_forum_30  n) x0 x1 x2 x4 s2 _ hx0 (fun x0 x1 x2 x3 x4 σ hx0 h => ih x0 x1 x2 x3 x4 σ hx0 h) h)
        · refine wr_iload_n (wg_da dt_X12_forum 31 rfl) rfl ?_
          refine wr_if_ne 76 (wg_da dt_X12_forum 32 rfl) (by decide) h (fun h => ?_) (fun h => ?_)
          · refine wr_aload_n (wg_da dt_X12_forum 33 rfl) rfl ?_
            refine wr_iload_n (wg_da dt_X12_forum 34 rfl) rfl ?_
            refine wr_iload (wg_da dt_X12_forum 35 rfl) rfl ?_
            refine wr_callVi [.int x1, .int x4] [] (wg_da dt_X12_forum 36 rfl) ⟨wq_8_74, wq_8_76, wq_p7_4⟩ hx0 ⟨rfl, by decide⟩ wy_X12_verdictOf (fun q hq => m_X12_verdictOf l E x0 x1 x4 hx0 _ q hq) rfl rfl (Nat.le_of_ble_eq_true rfl) ⟨rfl, rfl, by decide, by decide⟩ h (fun v3 s4 h => ?_)
            refine wr_aload_n (wg_da dt_X12_forum 37 rfl) rfl ?_
            refine wr_iload_n (wg_da dt_X12_forum 38 rfl) rfl ?_
            refine wr_iload_n (wg_da dt_X12_forum 39 rfl) rfl ?_
            refine wr_callVi [.int x1, .int x3] [.int v3] (wg_da dt_X12_forum 40 rfl) ⟨wq_8_74, wq_8_76, wq_p7_4⟩ hx0 ⟨rfl, by decide⟩ wy_X12_verdictOf (fun q hq => m_X12_verdictOf l E x0 x1 x3 hx0 _ q hq) rfl rfl (Nat.le_of_ble_eq_true rfl) ⟨rfl, rfl, by decide, by decide⟩ h (fun v5 s6 h => ?_)
            refine wr_icmp_gt 97 (wg_da dt_X12_forum 41 rfl) (by decide) h (fun h => ?_) (fun h => ?_)
            · exact wr_wk [true, true, true, false, true] (g_X12_forum_97 l E (f_X12_forum_30  n) x0 x1 x2 x4 s6 _ hx0 (fun x0 x1 x2 x3 x4 σ hx0 h => ih x0 x1 x2 x3 x4 σ hx0 h) h)
            · exact wr_wk [true, true, true, true, true] (g_X12_forum_76 l E (f_X12_forum_30  n) x0 x1 x2 x3 x4 s6 _ hx0 (fun x0 x1 x2 x3 x4 σ hx0 h => ih x0 x1 x2 x3 x4 σ hx0 h) h)
          · exact wr_wk [true, true, true, true, true] (g_X12_forum_76 l E (f_X12_forum_30  n) x0 x1 x2 x3 x4 s2 _ hx0 (fun x0 x1 x2 x3 x4 σ hx0 h => ih x0 x1 x2 x3 x4 σ hx0 h) h)
set_option maxRecDepth 20000 in
theorem g_X12_forum_e (l : Launch) (E : wg_E)  (x0 : Nat) (x1 : Int32) (x2 : Int32) (σ : wg_M) (z : Int32 × wg_M) (hx0 : wg_t Sm x0 = 14) (h : f_X12_forum  x0 x1 x2 σ = some z) : wg_G l E Sm "WornWigsModel" cX12_forum 5 (some .int) rm_X12_forum (some z.1) z.2 0 [some (.ref x0), some (.int x1), some (.int x2), none, none] [] σ := by
  refine wr_aload_n (wg_da dt_X12_forum 0 rfl) rfl ?_
  refine wr_iconst (0 : Int32) (wg_da dt_X12_forum 1 rfl) (by decide) ?_
  refine wr_putI wfp_X12_113 (wg_da dt_X12_forum 2 rfl) hx0 h (fun s1 h => ?_)
  refine wr_aload_n (wg_da dt_X12_forum 3 rfl) rfl ?_
  refine wr_iload_n (wg_da dt_X12_forum 4 rfl) rfl ?_
  refine wr_callVi [.int x1] [] (wg_da dt_X12_forum 5 rfl) ⟨wq_7_134, wq_7_136, wq_p4_12⟩ hx0 ⟨rfl, by decide⟩ wy_X12_isTrial (fun q hq => m_X12_isTrial l E x0 x1 hx0 _ q hq) rfl rfl (Nat.le_of_ble_eq_true rfl) ⟨rfl, rfl, by decide, by decide⟩ h (fun v2 s3 h => ?_)
  refine wr_if_eq 23 (wg_da dt_X12_forum 6 rfl) (by decide) h (fun h => ?_) (fun h => ?_)
  · refine wr_iconst (-1 : Int32) (wg_da dt_X12_forum 13 rfl) (by decide) ?_
    exact wr_iret (wg_da dt_X12_forum 14 rfl) h
  · refine wr_aload_n (wg_da dt_X12_forum 7 rfl) rfl ?_
    refine wr_iload_n (wg_da dt_X12_forum 8 rfl) rfl ?_
    refine wr_iconst (0 : Int32) (wg_da dt_X12_forum 9 rfl) (by decide) ?_
    refine wr_iconst (1 : Int32) (wg_da dt_X12_forum 10 rfl) (by decide) ?_
    refine wr_callVi [.int x2, .int (0 : Int32), .int (1 : Int32)] [] (wg_da dt_X12_forum 11 rfl) ⟨wq_7_82, wq_7_84, wq_p4_3⟩ hx0 ⟨rfl, by decide⟩ wy_X12_isIn (fun q hq => m_X12_isIn l E x0 x2 (0 : Int32) (1 : Int32) hx0 _ q hq) rfl rfl (Nat.le_of_ble_eq_true rfl) ⟨rfl, rfl, by decide, by decide⟩ h (fun v4 s5 h => ?_)
    refine wr_if_ne 25 (wg_da dt_X12_forum 12 rfl) (by decide) h (fun h => ?_) (fun h => ?_)
    · refine wr_iconst (-1 : Int32) (wg_da dt_X12_forum 13 rfl) (by decide) ?_
      exact wr_iret (wg_da dt_X12_forum 14 rfl) h
    · refine wr_iconst (-1 : Int32) (wg_da dt_X12_forum 15 rfl) (by decide) ?_
      refine wr_istore_n (wg_da dt_X12_forum 16 rfl) (by decide) ?_
      refine wr_iconst (0 : Int32) (wg_da dt_X12_forum 17 rfl) (by decide) ?_
      refine wr_istore (wg_da dt_X12_forum 18 rfl) (by decide) ?_
      exact wr_wk [true, true, true, true, true] (g_X12_forum_30 l E  _  wg_N x0 x1 x2 (-1 : Int32) (0 : Int32) s5 hx0 h)
theorem m_X12_forum (l : Launch) (E : wg_E) (x0 : Nat) (x1 : Int32) (x2 : Int32) (hx0 : wg_t Sm x0 = 14) (σ : wg_M) (q : Int32 × wg_M) (h : f_X12_forum x0 x1 x2 σ = some q) : wg_MG l E Sm yX12_forum cX12_forum 5 (some .int) rm_X12_forum [.ref x0, .int x1, .int x2] σ (some q.1) q.2 :=
  wg_met [.ref x0, .int x1, .int x2] (plainFor_of_name (by decide)) (Nat.le_of_ble_eq_true rfl) (g_X12_forum_e l E x0 x1 x2 σ q hx0 h)
abbrev rm_X12_agrees : Room := { frames := 2, cells := 0, slots := 0, locals := 47 }
def tb_X12_agrees : List (Nat × Instr × Nat) := [(0, .iconst 0, 1), (1, .istore_n 3, 1), (2, .iload_n 3, 1), (3, .aload_n 0, 1), (4, .getfield 7, 3), (7, .bipush 67, 2), (9, .iload_n 1, 1), (10, .iadd, 1), (11, .iaload, 1), (12, .if_icmp .ge 56, 3), (15, .iconst 0, 1), (16, .istore 4, 2), (18, .iload 4, 2), (20, .iload_n 3, 1), (21, .if_icmp .ge 41, 3), (24, .aload_n 0, 1), (25, .iload_n 2, 1), (26, .iload_n 3, 1), (27, .invokevirtual 441, 3), (30, .ifCond .ne 26, 3), (33, .aload_n 0, 1), (34, .iload_n 2, 1), (35, .iload 4, 2), (37, .invokevirtual 441, 3), (40, .ifCond .ne 16, 3), (43, .aload_n 0, 1), (44, .iload_n 1, 1), (45, .iload_n 3, 1), (46, .iload 4, 2), (48, .invokevirtual 142, 3), (51, .ifCond .eq 5, 3), (54, .iconst 0, 1), (55, .ireturn, 1), (56, .iinc 4 1, 3), (59, .goto (-41), 3), (62, .iinc 3 1, 3), (65, .goto (-63), 3), (68, .iconst 1, 1), (69, .ireturn, 1)]
theorem dt_X12_agrees : wg_dc cX12_agrees tb_X12_agrees := by unfold wg_dc; decide +kernel
def f_X12_agrees_56 (k18 : Nat → Int32 → Int32 → Int32 → Int32 → wg_M → Option (Int32 × wg_M)) (x0 : Nat) (x1 : Int32) (x2 : Int32) (x3 : Int32) (x4 : Int32) (σ : wg_M) : Option (Int32 × wg_M) := wg_let (x4 + (1 : Int32)) (fun v1 => k18 x0 x1 x2 x3 v1 σ)
def f_X12_agrees_18 (k2 : Nat → Int32 → Int32 → Int32 → wg_M → Option (Int32 × wg_M)) : Nat → Nat → Int32 → Int32 → Int32 → Int32 → wg_M → Option (Int32 × wg_M)
  | 0, _, _, _, _, _, _ => none
  | n + 1, x0, x1, x2, x3, x4, σ => if x3 ≤ x4 then (wg_let (x3 + (1 : Int32)) (fun v1 => k2 x0 x1 x2 v1 σ)) else (wg_bd (f_X12_has x0 x2 x3 σ) (fun v2 s3 => if v2 = 0 then (wg_bd (f_X12_has x0 x2 x4 s3) (fun v4 s5 => if v4 = 0 then (wg_bd (f_X12_isItching x0 x1 x3 x4 s5) (fun v6 s7 => if v6 = 0 then (f_X12_agrees_56 (f_X12_agrees_18 k2 n) x0 x1 x2 x3 x4 s7) else (some ((0 : Int32), s7)))) else (f_X12_agrees_56 (f_X12_agrees_18 k2 n) x0 x1 x2 x3 x4 s5))) else (f_X12_agrees_56 (f_X12_agrees_18 k2 n) x0 x1 x2 x3 x4 s3)))
def f_X12_agrees_2  : Nat → Nat → Int32 → Int32 → Int32 → wg_M → Option (Int32 × wg_M)
  | 0, _, _, _, _, _ => none
  | n + 1, x0, x1, x2, x3, σ => wg_ga (wg_n Sm (wg_r Sm x0 1)) (σ (wg_r Sm x0 1)) ((67 : Int32) + x1) (fun v1 => if v1 ≤ x3 then (some ((1 : Int32), σ)) else (f_X12_agrees_18 (f_X12_agrees_2  n) wg_N x0 x1 x2 x3 (0 : Int32) σ))
def f_X12_agrees  (x0 : Nat) (x1 : Int32) (x2 : Int32) (σ : wg_M) : Option (Int32 × wg_M) := f_X12_agrees_2  wg_N x0 x1 x2 (0 : Int32) σ
set_option maxRecDepth 20000 in
theorem g_X12_agrees_56 (l : Launch) (E : wg_E) (k18 : Nat → Int32 → Int32 → Int32 → Int32 → wg_M → Option (Int32 × wg_M)) (x0 : Nat) (x1 : Int32) (x2 : Int32) (x3 : Int32) (x4 : Int32) (σ : wg_M) (z : Int32 × wg_M) (hx0 : wg_t Sm x0 = 14) (hk18 : ∀ (x0 : Nat) (x1 : Int32) (x2 : Int32) (x3 : Int32) (x4 : Int32) (σ : wg_M), wg_t Sm x0 = 14 → k18 x0 x1 x2 x3 x4 σ = some z → wg_G l E Sm "WornWigsModel" cX12_agrees 5 (some .boolean) rm_X12_agrees (some z.1) z.2 18 [some (.ref x0), some (.int x1), some (.int x2), some (.int x3), some (.int x4)] [] σ) (h : f_X12_agrees_56 k18 x0 x1 x2 x3 x4 σ = some z) : wg_G l E Sm "WornWigsModel" cX12_agrees 5 (some .boolean) rm_X12_agrees (some z.1) z.2 56 [some (.ref x0), some (.int x1), some (.int x2), some (.int x3), some (.int x4)] [] σ := by
  refine wr_iinc (c0 := (1 : Int32)) (wg_da dt_X12_agrees 33 rfl) rfl (by decide) (by decide) h (fun v1 h => ?_)
  refine wr_goto 18 (wg_da dt_X12_agrees 34 rfl) (by decide) ?_
  exact wr_wk [true, true, true, true, true] (hk18 x0 x1 x2 x3 v1 σ hx0 h)
set_option maxRecDepth 20000 in
theorem g_X12_agrees_18 (l : Launch) (E : wg_E) (k2 : Nat → Int32 → Int32 → Int32 → wg_M → Option (Int32 × wg_M)) (z : Int32 × wg_M) (hk2 : ∀ (x0 : Nat) (x1 : Int32) (x2 : Int32) (x3 : Int32) (σ : wg_M), wg_t Sm x0 = 14 → k2 x0 x1 x2 x3 σ = some z → wg_G l E Sm "WornWigsModel" cX12_agrees 5 (some .boolean) rm_X12_agrees (some z.1) z.2 2 [some (.ref x0), some (.int x1), some (.int x2), some (.int x3), none] [] σ) : ∀ (n : Nat) (x0 : Nat) (x1 : Int32) (x2 : Int32) (x3 : Int32) (x4 : Int32) (σ : wg_M) (hx0 : wg_t Sm x0 = 14) (h : f_X12_agrees_18 k2 n x0 x1 x2 x3 x4 σ = some z), wg_G l E Sm "WornWigsModel" cX12_agrees 5 (some .boolean) rm_X12_agrees (some z.1) z.2 18 [some (.ref x0), some (.int x1), some (.int x2), some (.int x3), some (.int x4)] [] σ := by
  intro n
  induction n with
  | zero => intro x0 x1 x2 x3 x4 σ hx0 h; cases h
  | succ n ih =>
    intro x0 x1 x2 x3 x4 σ hx0 h
    refine wr_iload (wg_da dt_X12_agrees 12 rfl) rfl ?_
    refine wr_iload_n (wg_da dt_X12_agrees 13 rfl) rfl ?_
    refine wr_icmp_ge 62 (wg_da dt_X12_agrees 14 rfl) (by decide) h (fun h => ?_) (fun h => ?_)
    · refine wr_iinc (c0 := (1 : Int32)) (wg_da dt_X12_agrees 35 rfl) rfl (by decide) (by decide) h (fun v1 h => ?_)
      refine wr_goto 2 (wg_da dt_X12_agrees 36 rfl) (by decide) ?_
      exact wr_wk [true, true, true, true, false] (hk2 x0 x1 x2 v1 σ hx0 h)
    · refine wr_aload_n (wg_da dt_X12_agrees 15 rfl) rfl ?_
      refine wr_iload_n (wg_da dt_X12_agrees 16 rfl) rfl ?_
      refine wr_iload_n (wg_da dt_X12_agrees 17 rfl) rfl ?_
      refine wr_callVi [.int x2, .int x3] [] (wg_da dt_X12_agrees 18 rfl) ⟨wq_9_21, wq_9_23, wq_p9_7⟩ hx0 ⟨rfl, by decide⟩ wy_X12_has (fun q hq => m_X12_has l E x0 x2 x3 hx0 _ q hq) rfl rfl (Nat.le_of_ble_eq_true rfl) ⟨rfl, rfl, by decide, by decide⟩ h (fun v2 s3 h => ?_)
      refine wr_if_ne 56 (wg_da dt_X12_agrees 19 rfl) (by decide) h (fun h => ?_) (fun h => ?_)
      · refine wr_aload_n (wg_da dt_X12_agrees 20 rfl) rfl ?_
        refine wr_iload_n (wg_da dt_X12_agrees 21 rfl) rfl ?_
        refine wr_iload (wg_da dt_X12_agrees 22 rfl) rfl ?_
        refine wr_callVi [.int x2, .int x4] [] (wg_da dt_X12_agrees 23 rfl) ⟨wq_9_21, wq_9_23, wq_p9_7⟩ hx0 ⟨rfl, by decide⟩ wy_X12_has (fun q hq => m_X12_has l E x0 x2 x4 hx0 _ q hq) rfl rfl (Nat.le_of_ble_eq_true rfl) ⟨rfl, rfl, by decide, by decide⟩ h (fun v4 s5 h => ?_)
        refine wr_if_ne 56 (wg_da dt_X12_agrees 24 rfl) (by decide) h (fun h => ?_) (fun h => ?_)
        · refine wr_aload_n (wg_da dt_X12_agrees 25 rfl) rfl ?_
          refine wr_iload_n (wg_da dt_X12_agrees 26 rfl) rfl ?_
          refine wr_iload_n (wg_da dt_X12_agrees 27 rfl) rfl ?_
          refine wr_iload (wg_da dt_X12_agrees 28 rfl) rfl ?_
          refine wr_callVi [.int x1, .int x3, .int x4] [] (wg_da dt_X12_agrees 29 rfl) ⟨wq_7_114, wq_7_116, wq_p4_8⟩ hx0 ⟨rfl, by decide⟩ wy_X12_isItching (fun q hq => m_X12_isItching l E x0 x1 x3 x4 hx0 _ q hq) rfl rfl (Nat.le_of_ble_eq_true rfl) ⟨rfl, rfl, by decide, by decide⟩ h (fun v6 s7 h => ?_)
          refine wr_if_eq 56 (wg_da dt_X12_agrees 30 rfl) (by decide) h (fun h => ?_) (fun h => ?_)
          · exact wr_wk [true, true, true, true, true] (g_X12_agrees_56 l E (f_X12_agrees_18 k2 n) x0 x1 x2 x3 x4 s7 _ hx0 (fun x0 x1 x2 x3 x4 σ hx0 h => ih x0 x1 x2 x3 x4 σ hx0 h) h)
          · refine wr_iconst (0 : Int32) (wg_da dt_X12_agrees 31 rfl) (by decide) ?_
            exact wr_zret0 (wg_da dt_X12_agrees 32 rfl) h
        · exact wr_wk [true, true, true, true, true] (g_X12_agrees_56 l E (f_X12_agrees_18 k2 n) x0 x1 x2 x3 x4 s5 _ hx0 (fun x0 x1 x2 x3 x4 σ hx0 h => ih x0 x1 x2 x3 x4 σ hx0 h) h)
      · exact wr_wk [true, true, true, true, true] (g_X12_agrees_56 l E (f_X12_agrees_18 k2 n) x0 x1 x2 x3 x4 s3 _ hx0 (fun x0 x1 x2 x3 x4 σ hx0 h => ih x0 x1 x2 x3 x4 σ hx0 h) h)
set_option maxRecDepth 20000 in
theorem g_X12_agrees_2 (l : Launch) (E : wg_E)  (z : Int32 × wg_M) : ∀ (n : Nat) (x0 : Nat) (x1 : Int32) (x2 : Int32) (x3 : Int32) (σ : wg_M) (hx0 : wg_t Sm x0 = 14) (h : f_X12_agrees_2  n x0 x1 x2 x3 σ = some z), wg_G l E Sm "WornWigsModel" cX12_agrees 5 (some .boolean) rm_X12_agrees (some z.1) z.2 2 [some (.ref x0), some (.int x1), some (.int x2), some (.int x3), none] [] σ := by
  intro n
  induction n with
  | zero => intro x0 x1 x2 x3 σ hx0 h; cases h
  | succ n ih =>
    intro x0 x1 x2 x3 σ hx0 h
    refine wr_iload_n (wg_da dt_X12_agrees 2 rfl) rfl ?_
    refine wr_aload_n (wg_da dt_X12_agrees 3 rfl) rfl ?_
    refine wr_getR wf_X12_7 (wg_da dt_X12_agrees 4 rfl) hx0 ?_
    refine wr_bipush (67 : Int32) (wg_da dt_X12_agrees 5 rfl) (by decide) ?_
    refine wr_iload_n (wg_da dt_X12_agrees 6 rfl) rfl ?_
    refine wr_iadd (wg_da dt_X12_agrees 7 rfl) ?_
    refine wr_iald (wg_da dt_X12_agrees 8 rfl) (wg_ty Sm_ok 12 1 0 hx0 rfl (by decide)).2 h (fun v1 h => ?_)
    refine wr_icmp_ge 68 (wg_da dt_X12_agrees 9 rfl) (by decide) h (fun h => ?_) (fun h => ?_)
    · refine wr_iconst (1 : Int32) (wg_da dt_X12_agrees 37 rfl) (by decide) ?_
      exact wr_zret1 (wg_da dt_X12_agrees 38 rfl) h
    · refine wr_iconst (0 : Int32) (wg_da dt_X12_agrees 10 rfl) (by decide) ?_
      refine wr_istore (wg_da dt_X12_agrees 11 rfl) (by decide) ?_
      exact wr_wk [true, true, true, true, true] (g_X12_agrees_18 l E (f_X12_agrees_2  n) _ (fun x0 x1 x2 x3 σ hx0 h => ih x0 x1 x2 x3 σ hx0 h) wg_N x0 x1 x2 x3 (0 : Int32) σ hx0 h)
set_option maxRecDepth 20000 in
theorem g_X12_agrees_e (l : Launch) (E : wg_E)  (x0 : Nat) (x1 : Int32) (x2 : Int32) (σ : wg_M) (z : Int32 × wg_M) (hx0 : wg_t Sm x0 = 14) (h : f_X12_agrees  x0 x1 x2 σ = some z) : wg_G l E Sm "WornWigsModel" cX12_agrees 5 (some .boolean) rm_X12_agrees (some z.1) z.2 0 [some (.ref x0), some (.int x1), some (.int x2), none, none] [] σ := by
  refine wr_iconst (0 : Int32) (wg_da dt_X12_agrees 0 rfl) (by decide) ?_
  refine wr_istore_n (wg_da dt_X12_agrees 1 rfl) (by decide) ?_
  exact wr_wk [true, true, true, true, false] (g_X12_agrees_2 l E  _  wg_N x0 x1 x2 (0 : Int32) σ hx0 h)
theorem m_X12_agrees (l : Launch) (E : wg_E) (x0 : Nat) (x1 : Int32) (x2 : Int32) (hx0 : wg_t Sm x0 = 14) (σ : wg_M) (q : Int32 × wg_M) (h : f_X12_agrees x0 x1 x2 σ = some q) : wg_MG l E Sm yX12_agrees cX12_agrees 5 (some .boolean) rm_X12_agrees [.ref x0, .int x1, .int x2] σ (some q.1) q.2 :=
  wg_met [.ref x0, .int x1, .int x2] (plainFor_of_name (by decide)) (Nat.le_of_ble_eq_true rfl) (g_X12_agrees_e l E x0 x1 x2 σ q hx0 h)
abbrev rm_X12_combs : Room := { frames := 3, cells := 0, slots := 0, locals := 71 }
def tb_X12_combs : List (Nat × Instr × Nat) := [(0, .aload_n 0, 1), (1, .iconst 0, 1), (2, .putfield 113, 3), (5, .aload_n 0, 1), (6, .iload_n 1, 1), (7, .invokevirtual 156, 3), (10, .ifCond .eq 13, 3), (13, .aload_n 0, 1), (14, .iload_n 2, 1), (15, .iconst 0, 1), (16, .iconst 1, 1), (17, .invokevirtual 153, 3), (20, .ifCond .ne 5, 3), (23, .iconst (-1), 1), (24, .ireturn, 1), (25, .iconst 1, 1), (26, .aload_n 0, 1), (27, .getfield 7, 3), (30, .bipush 67, 2), (32, .iload_n 1, 1), (33, .iadd, 1), (34, .iaload, 1), (35, .ishl, 1), (36, .iconst 1, 1), (37, .isub, 1), (38, .istore_n 3, 1), (39, .iconst 0, 1), (40, .istore 4, 2), (42, .iload 4, 2), (44, .iconst 1, 1), (45, .aload_n 0, 1), (46, .getfield 7, 3), (49, .bipush 67, 2), (51, .iload_n 1, 1), (52, .iadd, 1), (53, .iaload, 1), (54, .ishl, 1), (55, .if_icmp .ge 36, 3), (58, .aload_n 0, 1), (59, .iload 4, 2), (61, .invokevirtual 435, 3), (64, .aload_n 0, 1), (65, .iload_n 3, 1), (66, .invokevirtual 435, 3), (69, .if_icmp .ge 16, 3), (72, .aload_n 0, 1), (73, .iload_n 1, 1), (74, .iload 4, 2), (76, .invokevirtual 444, 3), (79, .ifCond .eq 6, 3), (82, .iload 4, 2), (84, .istore_n 3, 1), (85, .iinc 4 1, 3), (88, .goto (-46), 3), (91, .iload_n 2, 1), (92, .ifCond .ne 11, 3), (95, .aload_n 0, 1), (96, .iload_n 3, 1), (97, .invokevirtual 435, 3), (100, .goto 4, 3), (103, .iload_n 3, 1), (104, .ireturn, 1)]
theorem dt_X12_combs : wg_dc cX12_combs tb_X12_combs := by unfold wg_dc; decide +kernel
def f_X12_combs_85 (k42 : Nat → Int32 → Int32 → Int32 → Int32 → wg_M → Option (Int32 × wg_M)) (x0 : Nat) (x1 : Int32) (x2 : Int32) (x3 : Int32) (x4 : Int32) (σ : wg_M) : Option (Int32 × wg_M) := wg_let (x4 + (1 : Int32)) (fun v1 => k42 x0 x1 x2 x3 v1 σ)
def f_X12_combs_42  : Nat → Nat → Int32 → Int32 → Int32 → Int32 → wg_M → Option (Int32 × wg_M)
  | 0, _, _, _, _, _, _ => none
  | n + 1, x0, x1, x2, x3, x4, σ => wg_ga (wg_n Sm (wg_r Sm x0 1)) (σ (wg_r Sm x0 1)) ((67 : Int32) + x1) (fun v1 => if ((1 : Int32) <<< (v1 &&& 31)) ≤ x4 then (if x2 = 0 then (wg_bd (f_X12_onesOf x0 x3 σ) (fun v2 s3 => some (v2, s3))) else (some (x3, σ))) else (wg_bd (f_X12_onesOf x0 x4 σ) (fun v4 s5 => wg_bd (f_X12_onesOf x0 x3 s5) (fun v6 s7 => if v6 ≤ v4 then (f_X12_combs_85 (f_X12_combs_42  n) x0 x1 x2 x3 x4 s7) else (wg_bd (f_X12_agrees x0 x1 x4 s7) (fun v8 s9 => if v8 = 0 then (f_X12_combs_85 (f_X12_combs_42  n) x0 x1 x2 x3 x4 s9) else (f_X12_combs_85 (f_X12_combs_42  n) x0 x1 x2 x4 x4 s9)))))))
def f_X12_combs  (x0 : Nat) (x1 : Int32) (x2 : Int32) (σ : wg_M) : Option (Int32 × wg_M) := wg_st σ x0 0 (0 : Int32) (fun s1 => wg_bd (f_X12_isWig x0 x1 s1) (fun v2 s3 => if v2 = 0 then (some ((-1 : Int32), s3)) else (wg_bd (f_X12_isIn x0 x2 (0 : Int32) (1 : Int32) s3) (fun v4 s5 => if v4 = 0 then (some ((-1 : Int32), s5)) else (wg_ga (wg_n Sm (wg_r Sm x0 1)) (s5 (wg_r Sm x0 1)) ((67 : Int32) + x1) (fun v6 => wg_let (((1 : Int32) <<< (v6 &&& 31)) - (1 : Int32)) (fun v7 => f_X12_combs_42  wg_N x0 x1 x2 v7 (0 : Int32) s5)))))))
set_option maxRecDepth 20000 in
theorem g_X12_combs_85 (l : Launch) (E : wg_E) (k42 : Nat → Int32 → Int32 → Int32 → Int32 → wg_M → Option (Int32 × wg_M)) (x0 : Nat) (x1 : Int32) (x2 : Int32) (x3 : Int32) (x4 : Int32) (σ : wg_M) (z : Int32 × wg_M) (hx0 : wg_t Sm x0 = 14) (hk42 : ∀ (x0 : Nat) (x1 : Int32) (x2 : Int32) (x3 : Int32) (x4 : Int32) (σ : wg_M), wg_t Sm x0 = 14 → k42 x0 x1 x2 x3 x4 σ = some z → wg_G l E Sm "WornWigsModel" cX12_combs 5 (some .int) rm_X12_combs (some z.1) z.2 42 [some (.ref x0), some (.int x1), some (.int x2), some (.int x3), some (.int x4)] [] σ) (h : f_X12_combs_85 k42 x0 x1 x2 x3 x4 σ = some z) : wg_G l E Sm "WornWigsModel" cX12_combs 5 (some .int) rm_X12_combs (some z.1) z.2 85 [some (.ref x0), some (.int x1), some (.int x2), some (.int x3), some (.int x4)] [] σ := by
  refine wr_iinc (c0 := (1 : Int32)) (wg_da dt_X12_combs 52 rfl) rfl (by decide) (by decide) h (fun v1 h => ?_)
  refine wr_goto 42 (wg_da dt_X12_combs 53 rfl) (by decide) ?_
  exact wr_wk [true, true, true, true, true] (hk42 x0 x1 x2 x3 v1 σ hx0 h)
set_option maxRecDepth 20000 in
theorem g_X12_combs_42 (l : Launch) (E : wg_E)  (z : Int32 × wg_M) : ∀ (n : Nat) (x0 : Nat) (x1 : Int32) (x2 : Int32) (x3 : Int32) (x4 : Int32) (σ : wg_M) (hx0 : wg_t Sm x0 = 14) (h : f_X12_combs_42  n x0 x1 x2 x3 x4 σ = some z), wg_G l E Sm "WornWigsModel" cX12_combs 5 (some .int) rm_X12_combs (some z.1) z.2 42 [some (.ref x0), some (.int x1), some (.int x2), some (.int x3), some (.int x4)] [] σ := by
  intro n
  induction n with
  | zero => intro x0 x1 x2 x3 x4 σ hx0 h; cases h
  | succ n ih =>
    intro x0 x1 x2 x3 x4 σ hx0 h
    refine wr_iload (wg_da dt_X12_combs 28 rfl) rfl ?_
    refine wr_iconst (1 : Int32) (wg_da dt_X12_combs 29 rfl) (by decide) ?_
    refine wr_aload_n (wg_da dt_X12_combs 30 rfl) rfl ?_
    refine wr_getR wf_X12_7 (wg_da dt_X12_combs 31 rfl) hx0 ?_
    refine wr_bipush (67 : Int32) (wg_da dt_X12_combs 32 rfl) (by decide) ?_
    refine wr_iload_n (wg_da dt_X12_combs 33 rfl) rfl ?_
    refine wr_iadd (wg_da dt_X12_combs 34 rfl) ?_
    refine wr_iald (wg_da dt_X12_combs 35 rfl) (wg_ty Sm_ok 12 1 0 hx0 rfl (by decide)).2 h (fun v1 h => ?_)
    refine wr_ishl (wg_da dt_X12_combs 36 rfl) ?_
    refine wr_icmp_ge 91 (wg_da dt_X12_combs 37 rfl) (by decide) h (fun h => ?_) (fun h => ?_)
    · refine wr_iload_n (wg_da dt_X12_combs 54 rfl) rfl ?_
      refine wr_if_ne 103 (wg_da dt_X12_combs 55 rfl) (by decide) h (fun h => ?_) (fun h => ?_)
      · refine wr_aload_n (wg_da dt_X12_combs 56 rfl) rfl ?_
        refine wr_iload_n (wg_da dt_X12_combs 57 rfl) rfl ?_
        refine wr_callVi [.int x3] [] (wg_da dt_X12_combs 58 rfl) ⟨wq_8_237, wq_8_239, wq_p9_4⟩ hx0 ⟨rfl, by decide⟩ wy_X12_onesOf (fun q hq => m_X12_onesOf l E x0 x3 hx0 _ q hq) rfl rfl (Nat.le_of_ble_eq_true rfl) ⟨rfl, rfl, by decide, by decide⟩ h (fun v2 s3 h => ?_)
        refine wr_goto 104 (wg_da dt_X12_combs 59 rfl) (by decide) ?_
        exact wr_iret (wg_da dt_X12_combs 61 rfl) h
      · refine wr_iload_n (wg_da dt_X12_combs 60 rfl) rfl ?_
        exact wr_iret (wg_da dt_X12_combs 61 rfl) h
    · refine wr_aload_n (wg_da dt_X12_combs 38 rfl) rfl ?_
      refine wr_iload (wg_da dt_X12_combs 39 rfl) rfl ?_
      refine wr_callVi [.int x4] [] (wg_da dt_X12_combs 40 rfl) ⟨wq_8_237, wq_8_239, wq_p9_4⟩ hx0 ⟨rfl, by decide⟩ wy_X12_onesOf (fun q hq => m_X12_onesOf l E x0 x4 hx0 _ q hq) rfl rfl (Nat.le_of_ble_eq_true rfl) ⟨rfl, rfl, by decide, by decide⟩ h (fun v4 s5 h => ?_)
      refine wr_aload_n (wg_da dt_X12_combs 41 rfl) rfl ?_
      refine wr_iload_n (wg_da dt_X12_combs 42 rfl) rfl ?_
      refine wr_callVi [.int x3] [.int v4] (wg_da dt_X12_combs 43 rfl) ⟨wq_8_237, wq_8_239, wq_p9_4⟩ hx0 ⟨rfl, by decide⟩ wy_X12_onesOf (fun q hq => m_X12_onesOf l E x0 x3 hx0 _ q hq) rfl rfl (Nat.le_of_ble_eq_true rfl) ⟨rfl, rfl, by decide, by decide⟩ h (fun v6 s7 h => ?_)
      refine wr_icmp_ge 85 (wg_da dt_X12_combs 44 rfl) (by decide) h (fun h => ?_) (fun h => ?_)
      · exact wr_wk [true, true, true, true, true] (g_X12_combs_85 l E (f_X12_combs_42  n) x0 x1 x2 x3 x4 s7 _ hx0 (fun x0 x1 x2 x3 x4 σ hx0 h => ih x0 x1 x2 x3 x4 σ hx0 h) h)
      · refine wr_aload_n (wg_da dt_X12_combs 45 rfl) rfl ?_
        refine wr_iload_n (wg_da dt_X12_combs 46 rfl) rfl ?_
        refine wr_iload (wg_da dt_X12_combs 47 rfl) rfl ?_
        refine wr_callVi [.int x1, .int x4] [] (wg_da dt_X12_combs 48 rfl) ⟨wq_9_17, wq_9_19, wq_p9_6⟩ hx0 ⟨rfl, by decide⟩ wy_X12_agrees (fun q hq => m_X12_agrees l E x0 x1 x4 hx0 _ q hq) rfl rfl (Nat.le_of_ble_eq_true rfl) ⟨rfl, rfl, by decide, by decide⟩ h (fun v8 s9 h => ?_)
        refine wr_if_eq 85 (wg_da dt_X12_combs 49 rfl) (by decide) h (fun h => ?_) (fun h => ?_)
        · exact wr_wk [true, true, true, true, true] (g_X12_combs_85 l E (f_X12_combs_42  n) x0 x1 x2 x3 x4 s9 _ hx0 (fun x0 x1 x2 x3 x4 σ hx0 h => ih x0 x1 x2 x3 x4 σ hx0 h) h)
        · refine wr_iload (wg_da dt_X12_combs 50 rfl) rfl ?_
          refine wr_istore_n (wg_da dt_X12_combs 51 rfl) (by decide) ?_
          exact wr_wk [true, true, true, true, true] (g_X12_combs_85 l E (f_X12_combs_42  n) x0 x1 x2 x4 x4 s9 _ hx0 (fun x0 x1 x2 x3 x4 σ hx0 h => ih x0 x1 x2 x3 x4 σ hx0 h) h)
set_option maxRecDepth 20000 in
theorem g_X12_combs_e (l : Launch) (E : wg_E)  (x0 : Nat) (x1 : Int32) (x2 : Int32) (σ : wg_M) (z : Int32 × wg_M) (hx0 : wg_t Sm x0 = 14) (h : f_X12_combs  x0 x1 x2 σ = some z) : wg_G l E Sm "WornWigsModel" cX12_combs 5 (some .int) rm_X12_combs (some z.1) z.2 0 [some (.ref x0), some (.int x1), some (.int x2), none, none] [] σ := by
  refine wr_aload_n (wg_da dt_X12_combs 0 rfl) rfl ?_
  refine wr_iconst (0 : Int32) (wg_da dt_X12_combs 1 rfl) (by decide) ?_
  refine wr_putI wfp_X12_113 (wg_da dt_X12_combs 2 rfl) hx0 h (fun s1 h => ?_)
  refine wr_aload_n (wg_da dt_X12_combs 3 rfl) rfl ?_
  refine wr_iload_n (wg_da dt_X12_combs 4 rfl) rfl ?_
  refine wr_callVi [.int x1] [] (wg_da dt_X12_combs 5 rfl) ⟨wq_7_98, wq_7_100, wq_p4_4⟩ hx0 ⟨rfl, by decide⟩ wy_X12_isWig (fun q hq => m_X12_isWig l E x0 x1 hx0 _ q hq) rfl rfl (Nat.le_of_ble_eq_true rfl) ⟨rfl, rfl, by decide, by decide⟩ h (fun v2 s3 h => ?_)
  refine wr_if_eq 23 (wg_da dt_X12_combs 6 rfl) (by decide) h (fun h => ?_) (fun h => ?_)
  · refine wr_iconst (-1 : Int32) (wg_da dt_X12_combs 13 rfl) (by decide) ?_
    exact wr_iret (wg_da dt_X12_combs 14 rfl) h
  · refine wr_aload_n (wg_da dt_X12_combs 7 rfl) rfl ?_
    refine wr_iload_n (wg_da dt_X12_combs 8 rfl) rfl ?_
    refine wr_iconst (0 : Int32) (wg_da dt_X12_combs 9 rfl) (by decide) ?_
    refine wr_iconst (1 : Int32) (wg_da dt_X12_combs 10 rfl) (by decide) ?_
    refine wr_callVi [.int x2, .int (0 : Int32), .int (1 : Int32)] [] (wg_da dt_X12_combs 11 rfl) ⟨wq_7_82, wq_7_84, wq_p4_3⟩ hx0 ⟨rfl, by decide⟩ wy_X12_isIn (fun q hq => m_X12_isIn l E x0 x2 (0 : Int32) (1 : Int32) hx0 _ q hq) rfl rfl (Nat.le_of_ble_eq_true rfl) ⟨rfl, rfl, by decide, by decide⟩ h (fun v4 s5 h => ?_)
    refine wr_if_ne 25 (wg_da dt_X12_combs 12 rfl) (by decide) h (fun h => ?_) (fun h => ?_)
    · refine wr_iconst (-1 : Int32) (wg_da dt_X12_combs 13 rfl) (by decide) ?_
      exact wr_iret (wg_da dt_X12_combs 14 rfl) h
    · refine wr_iconst (1 : Int32) (wg_da dt_X12_combs 15 rfl) (by decide) ?_
      refine wr_aload_n (wg_da dt_X12_combs 16 rfl) rfl ?_
      refine wr_getR wf_X12_7 (wg_da dt_X12_combs 17 rfl) hx0 ?_
      refine wr_bipush (67 : Int32) (wg_da dt_X12_combs 18 rfl) (by decide) ?_
      refine wr_iload_n (wg_da dt_X12_combs 19 rfl) rfl ?_
      refine wr_iadd (wg_da dt_X12_combs 20 rfl) ?_
      refine wr_iald (wg_da dt_X12_combs 21 rfl) (wg_ty Sm_ok 12 1 0 hx0 rfl (by decide)).2 h (fun v6 h => ?_)
      refine wr_ishl (wg_da dt_X12_combs 22 rfl) ?_
      refine wr_iconst (1 : Int32) (wg_da dt_X12_combs 23 rfl) (by decide) ?_
      refine wr_isub (wg_da dt_X12_combs 24 rfl) ?_
      refine wr_let h (fun v7 h => ?_)
      refine wr_istore_n (wg_da dt_X12_combs 25 rfl) (by decide) ?_
      refine wr_iconst (0 : Int32) (wg_da dt_X12_combs 26 rfl) (by decide) ?_
      refine wr_istore (wg_da dt_X12_combs 27 rfl) (by decide) ?_
      exact wr_wk [true, true, true, true, true] (g_X12_combs_42 l E  _  wg_N x0 x1 x2 v7 (0 : Int32) s5 hx0 h)
theorem m_X12_combs (l : Launch) (E : wg_E) (x0 : Nat) (x1 : Int32) (x2 : Int32) (hx0 : wg_t Sm x0 = 14) (σ : wg_M) (q : Int32 × wg_M) (h : f_X12_combs x0 x1 x2 σ = some q) : wg_MG l E Sm yX12_combs cX12_combs 5 (some .int) rm_X12_combs [.ref x0, .int x1, .int x2] σ (some q.1) q.2 :=
  wg_met [.ref x0, .int x1, .int x2] (plainFor_of_name (by decide)) (Nat.le_of_ble_eq_true rfl) (g_X12_combs_e l E x0 x1 x2 σ q hx0 h)
abbrev rm_X12_rulingFor : Room := { frames := 1, cells := 0, slots := 0, locals := 22 }
def tb_X12_rulingFor : List (Nat × Instr × Nat) := [(0, .iconst 0, 1), (1, .istore_n 3, 1), (2, .iconst 0, 1), (3, .istore 4, 2), (5, .iload 4, 2), (7, .aload_n 0, 1), (8, .getfield 7, 3), (11, .bipush 67, 2), (13, .iload_n 1, 1), (14, .iadd, 1), (15, .iaload, 1), (16, .if_icmp .ge 42, 3), (19, .aload_n 0, 1), (20, .getfield 7, 3), (23, .aload_n 0, 1), (24, .iload_n 1, 1), (25, .iload 4, 2), (27, .invokevirtual 138, 3), (30, .iaload, 1), (31, .iload_n 2, 1), (32, .if_icmp .ne 20, 3), (35, .iload_n 3, 1), (36, .aload_n 0, 1), (37, .getfield 7, 3), (40, .aload_n 0, 1), (41, .iload_n 1, 1), (42, .iload 4, 2), (44, .invokevirtual 138, 3), (47, .iconst 1, 1), (48, .iadd, 1), (49, .iaload, 1), (50, .iadd, 1), (51, .istore_n 3, 1), (52, .iinc 4 1, 3), (55, .goto (-50), 3), (58, .iload_n 3, 1), (59, .ireturn, 1)]
theorem dt_X12_rulingFor : wg_dc cX12_rulingFor tb_X12_rulingFor := by unfold wg_dc; decide +kernel
def f_X12_rulingFor_52 (k5 : Nat → Int32 → Int32 → Int32 → Int32 → wg_M → Option (Int32 × wg_M)) (x0 : Nat) (x1 : Int32) (x2 : Int32) (x3 : Int32) (x4 : Int32) (σ : wg_M) : Option (Int32 × wg_M) := wg_let (x4 + (1 : Int32)) (fun v1 => k5 x0 x1 x2 x3 v1 σ)
def f_X12_rulingFor_5  : Nat → Nat → Int32 → Int32 → Int32 → Int32 → wg_M → Option (Int32 × wg_M)
  | 0, _, _, _, _, _, _ => none
  | n + 1, x0, x1, x2, x3, x4, σ => wg_ga (wg_n Sm (wg_r Sm x0 1)) (σ (wg_r Sm x0 1)) ((67 : Int32) + x1) (fun v1 => if v1 ≤ x4 then (some (x3, σ)) else (wg_bd (f_X12_ruleAt x0 x1 x4 σ) (fun v2 s3 => wg_ga (wg_n Sm (wg_r Sm x0 1)) (s3 (wg_r Sm x0 1)) v2 (fun v4 => if v4 = x2 then (wg_bd (f_X12_ruleAt x0 x1 x4 s3) (fun v5 s6 => wg_ga (wg_n Sm (wg_r Sm x0 1)) (s6 (wg_r Sm x0 1)) (v5 + (1 : Int32)) (fun v7 => wg_let (x3 + v7) (fun v8 => f_X12_rulingFor_52 (f_X12_rulingFor_5  n) x0 x1 x2 v8 x4 s6)))) else (f_X12_rulingFor_52 (f_X12_rulingFor_5  n) x0 x1 x2 x3 x4 s3)))))
def f_X12_rulingFor  (x0 : Nat) (x1 : Int32) (x2 : Int32) (σ : wg_M) : Option (Int32 × wg_M) := f_X12_rulingFor_5  wg_N x0 x1 x2 (0 : Int32) (0 : Int32) σ
set_option maxRecDepth 20000 in
theorem g_X12_rulingFor_52 (l : Launch) (E : wg_E) (k5 : Nat → Int32 → Int32 → Int32 → Int32 → wg_M → Option (Int32 × wg_M)) (x0 : Nat) (x1 : Int32) (x2 : Int32) (x3 : Int32) (x4 : Int32) (σ : wg_M) (z : Int32 × wg_M) (hx0 : wg_t Sm x0 = 14) (hk5 : ∀ (x0 : Nat) (x1 : Int32) (x2 : Int32) (x3 : Int32) (x4 : Int32) (σ : wg_M), wg_t Sm x0 = 14 → k5 x0 x1 x2 x3 x4 σ = some z → wg_G l E Sm "WornWigsModel" cX12_rulingFor 5 (some .int) rm_X12_rulingFor (some z.1) z.2 5 [some (.ref x0), some (.int x1), some (.int x2), some (.int x3), some (.int x4)] [] σ) (h : f_X12_rulingFor_52 k5 x0 x1 x2 x3 x4 σ = some z) : wg_G l E Sm "WornWigsModel" cX12_rulingFor 5 (some .int) rm_X12_rulingFor (some z.1) z.2 52 [some (.ref x0), some (.int x1), some (.int x2), some (.int x3), some (.int x4)] [] σ := by
  refine wr_iinc (c0 := (1 : Int32)) (wg_da dt_X12_rulingFor 33 rfl) rfl (by decide) (by decide) h (fun v1 h => ?_)
  refine wr_goto 5 (wg_da dt_X12_rulingFor 34 rfl) (by decide) ?_
  exact wr_wk [true, true, true, true, true] (hk5 x0 x1 x2 x3 v1 σ hx0 h)
set_option maxRecDepth 20000 in
theorem g_X12_rulingFor_5 (l : Launch) (E : wg_E)  (z : Int32 × wg_M) : ∀ (n : Nat) (x0 : Nat) (x1 : Int32) (x2 : Int32) (x3 : Int32) (x4 : Int32) (σ : wg_M) (hx0 : wg_t Sm x0 = 14) (h : f_X12_rulingFor_5  n x0 x1 x2 x3 x4 σ = some z), wg_G l E Sm "WornWigsModel" cX12_rulingFor 5 (some .int) rm_X12_rulingFor (some z.1) z.2 5 [some (.ref x0), some (.int x1), some (.int x2), some (.int x3), some (.int x4)] [] σ := by
  intro n
  induction n with
  | zero => intro x0 x1 x2 x3 x4 σ hx0 h; cases h
  | succ n ih =>
    intro x0 x1 x2 x3 x4 σ hx0 h
    refine wr_iload (wg_da dt_X12_rulingFor 4 rfl) rfl ?_
    refine wr_aload_n (wg_da dt_X12_rulingFor 5 rfl) rfl ?_
    refine wr_getR wf_X12_7 (wg_da dt_X12_rulingFor 6 rfl) hx0 ?_
    refine wr_bipush (67 : Int32) (wg_da dt_X12_rulingFor 7 rfl) (by decide) ?_
    refine wr_iload_n (wg_da dt_X12_rulingFor 8 rfl) rfl ?_
    refine wr_iadd (wg_da dt_X12_rulingFor 9 rfl) ?_
    refine wr_iald (wg_da dt_X12_rulingFor 10 rfl) (wg_ty Sm_ok 12 1 0 hx0 rfl (by decide)).2 h (fun v1 h => ?_)
    refine wr_icmp_ge 58 (wg_da dt_X12_rulingFor 11 rfl) (by decide) h (fun h => ?_) (fun h => ?_)
    · refine wr_iload_n (wg_da dt_X12_rulingFor 35 rfl) rfl ?_
      exact wr_iret (wg_da dt_X12_rulingFor 36 rfl) h
    · refine wr_aload_n (wg_da dt_X12_rulingFor 12 rfl) rfl ?_
      refine wr_getR wf_X12_7 (wg_da dt_X12_rulingFor 13 rfl) hx0 ?_
      refine wr_aload_n (wg_da dt_X12_rulingFor 14 rfl) rfl ?_
      refine wr_iload_n (wg_da dt_X12_rulingFor 15 rfl) rfl ?_
      refine wr_iload (wg_da dt_X12_rulingFor 16 rfl) rfl ?_
      refine wr_callVi [.int x1, .int x4] [.ref (wg_r Sm x0 1)] (wg_da dt_X12_rulingFor 17 rfl) ⟨wq_7_106, wq_7_108, wq_p4_6⟩ hx0 ⟨rfl, by decide⟩ wy_X12_ruleAt (fun q hq => m_X12_ruleAt l E x0 x1 x4 hx0 _ q hq) rfl rfl (Nat.le_of_ble_eq_true rfl) ⟨rfl, rfl, by decide, by decide⟩ h (fun v2 s3 h => ?_)
      refine wr_iald (wg_da dt_X12_rulingFor 18 rfl) (wg_ty Sm_ok 12 1 0 hx0 rfl (by decide)).2 h (fun v4 h => ?_)
      refine wr_iload_n (wg_da dt_X12_rulingFor 19 rfl) rfl ?_
      refine wr_icmp_ne 52 (wg_da dt_X12_rulingFor 20 rfl) (by decide) h (fun h => ?_) (fun h => ?_)
      · refine wr_iload_n (wg_da dt_X12_rulingFor 21 rfl) rfl ?_
        refine wr_aload_n (wg_da dt_X12_rulingFor 22 rfl) rfl ?_
        refine wr_getR wf_X12_7 (wg_da dt_X12_rulingFor 23 rfl) hx0 ?_
        refine wr_aload_n (wg_da dt_X12_rulingFor 24 rfl) rfl ?_
        refine wr_iload_n (wg_da dt_X12_rulingFor 25 rfl) rfl ?_
        refine wr_iload (wg_da dt_X12_rulingFor 26 rfl) rfl ?_
        refine wr_callVi [.int x1, .int x4] [.ref (wg_r Sm x0 1), .int x3] (wg_da dt_X12_rulingFor 27 rfl) ⟨wq_7_106, wq_7_108, wq_p4_6⟩ hx0 ⟨rfl, by decide⟩ wy_X12_ruleAt (fun q hq => m_X12_ruleAt l E x0 x1 x4 hx0 _ q hq) rfl rfl (Nat.le_of_ble_eq_true rfl) ⟨rfl, rfl, by decide, by decide⟩ h (fun v5 s6 h => ?_)
        refine wr_iconst (1 : Int32) (wg_da dt_X12_rulingFor 28 rfl) (by decide) ?_
        refine wr_iadd (wg_da dt_X12_rulingFor 29 rfl) ?_
        refine wr_iald (wg_da dt_X12_rulingFor 30 rfl) (wg_ty Sm_ok 12 1 0 hx0 rfl (by decide)).2 h (fun v7 h => ?_)
        refine wr_iadd (wg_da dt_X12_rulingFor 31 rfl) ?_
        refine wr_let h (fun v8 h => ?_)
        refine wr_istore_n (wg_da dt_X12_rulingFor 32 rfl) (by decide) ?_
        exact wr_wk [true, true, true, true, true] (g_X12_rulingFor_52 l E (f_X12_rulingFor_5  n) x0 x1 x2 v8 x4 s6 _ hx0 (fun x0 x1 x2 x3 x4 σ hx0 h => ih x0 x1 x2 x3 x4 σ hx0 h) h)
      · exact wr_wk [true, true, true, true, true] (g_X12_rulingFor_52 l E (f_X12_rulingFor_5  n) x0 x1 x2 x3 x4 s3 _ hx0 (fun x0 x1 x2 x3 x4 σ hx0 h => ih x0 x1 x2 x3 x4 σ hx0 h) h)
set_option maxRecDepth 20000 in
theorem g_X12_rulingFor_e (l : Launch) (E : wg_E)  (x0 : Nat) (x1 : Int32) (x2 : Int32) (σ : wg_M) (z : Int32 × wg_M) (hx0 : wg_t Sm x0 = 14) (h : f_X12_rulingFor  x0 x1 x2 σ = some z) : wg_G l E Sm "WornWigsModel" cX12_rulingFor 5 (some .int) rm_X12_rulingFor (some z.1) z.2 0 [some (.ref x0), some (.int x1), some (.int x2), none, none] [] σ := by
  refine wr_iconst (0 : Int32) (wg_da dt_X12_rulingFor 0 rfl) (by decide) ?_
  refine wr_istore_n (wg_da dt_X12_rulingFor 1 rfl) (by decide) ?_
  refine wr_iconst (0 : Int32) (wg_da dt_X12_rulingFor 2 rfl) (by decide) ?_
  refine wr_istore (wg_da dt_X12_rulingFor 3 rfl) (by decide) ?_
  exact wr_wk [true, true, true, true, true] (g_X12_rulingFor_5 l E  _  wg_N x0 x1 x2 (0 : Int32) (0 : Int32) σ hx0 h)
theorem m_X12_rulingFor (l : Launch) (E : wg_E) (x0 : Nat) (x1 : Int32) (x2 : Int32) (hx0 : wg_t Sm x0 = 14) (σ : wg_M) (q : Int32 × wg_M) (h : f_X12_rulingFor x0 x1 x2 σ = some q) : wg_MG l E Sm yX12_rulingFor cX12_rulingFor 5 (some .int) rm_X12_rulingFor [.ref x0, .int x1, .int x2] σ (some q.1) q.2 :=
  wg_met [.ref x0, .int x1, .int x2] (plainFor_of_name (by decide)) (Nat.le_of_ble_eq_true rfl) (g_X12_rulingFor_e l E x0 x1 x2 σ q hx0 h)
abbrev rm_X12_unlike : Room := { frames := 2, cells := 0, slots := 0, locals := 46 }
def tb_X12_unlike : List (Nat × Instr × Nat) := [(0, .iconst 0, 1), (1, .istore_n 3, 1), (2, .iconst 0, 1), (3, .istore 4, 2), (5, .iload 4, 2), (7, .bipush 8, 2), (9, .if_icmp .ge 42, 3), (12, .aload_n 0, 1), (13, .iload_n 1, 1), (14, .iload 4, 2), (16, .invokevirtual 447, 3), (19, .aload_n 0, 1), (20, .iload_n 2, 1), (21, .iload 4, 2), (23, .invokevirtual 447, 3), (26, .isub, 1), (27, .istore 5, 2), (29, .iload_n 3, 1), (30, .iload 5, 2), (32, .ifCond .ge 9, 3), (35, .iload 5, 2), (37, .ineg, 1), (38, .goto 5, 3), (41, .iload 5, 2), (43, .iadd, 1), (44, .istore_n 3, 1), (45, .iinc 4 1, 3), (48, .goto (-43), 3), (51, .iload_n 3, 1), (52, .ireturn, 1)]
theorem dt_X12_unlike : wg_dc cX12_unlike tb_X12_unlike := by unfold wg_dc; decide +kernel
def f_X12_unlike_43 (k5 : Nat → Int32 → Int32 → Int32 → Int32 → wg_M → Option (Int32 × wg_M)) (x0 : Nat) (x1 : Int32) (x2 : Int32) (x4 : Int32) (t0 : Int32) (t1 : Int32) (σ : wg_M) : Option (Int32 × wg_M) := wg_let (t1 + t0) (fun v1 => wg_let (x4 + (1 : Int32)) (fun v2 => k5 x0 x1 x2 v1 v2 σ))
def f_X12_unlike_5  : Nat → Nat → Int32 → Int32 → Int32 → Int32 → wg_M → Option (Int32 × wg_M)
  | 0, _, _, _, _, _, _ => none
  | n + 1, x0, x1, x2, x3, x4, σ => if (8 : Int32) ≤ x4 then (some (x3, σ)) else (wg_bd (f_X12_rulingFor x0 x1 x4 σ) (fun v1 s2 => wg_bd (f_X12_rulingFor x0 x2 x4 s2) (fun v3 s4 => wg_let (v1 - v3) (fun v5 => if 0 ≤ v5 then (f_X12_unlike_43 (f_X12_unlike_5  n) x0 x1 x2 x4 v5 x3 s4) else (f_X12_unlike_43 (f_X12_unlike_5  n) x0 x1 x2 x4 (-v5) x3 s4)))))
def f_X12_unlike  (x0 : Nat) (x1 : Int32) (x2 : Int32) (σ : wg_M) : Option (Int32 × wg_M) := f_X12_unlike_5  wg_N x0 x1 x2 (0 : Int32) (0 : Int32) σ
set_option maxRecDepth 20000 in
theorem g_X12_unlike_43 (l : Launch) (E : wg_E) (k5 : Nat → Int32 → Int32 → Int32 → Int32 → wg_M → Option (Int32 × wg_M)) (x0 : Nat) (x1 : Int32) (x2 : Int32) (x4 : Int32) (t0 : Int32) (t1 : Int32) (σ : wg_M) (z : Int32 × wg_M) (hx0 : wg_t Sm x0 = 14) (hk5 : ∀ (x0 : Nat) (x1 : Int32) (x2 : Int32) (x3 : Int32) (x4 : Int32) (σ : wg_M), wg_t Sm x0 = 14 → k5 x0 x1 x2 x3 x4 σ = some z → wg_G l E Sm "WornWigsModel" cX12_unlike 6 (some .int) rm_X12_unlike (some z.1) z.2 5 [some (.ref x0), some (.int x1), some (.int x2), some (.int x3), some (.int x4), none] [] σ) (h : f_X12_unlike_43 k5 x0 x1 x2 x4 t0 t1 σ = some z) : wg_G l E Sm "WornWigsModel" cX12_unlike 6 (some .int) rm_X12_unlike (some z.1) z.2 43 [some (.ref x0), some (.int x1), some (.int x2), none, some (.int x4), none] [.int t0, .int t1] σ := by
  refine wr_iadd (wg_da dt_X12_unlike 24 rfl) ?_
  refine wr_let h (fun v1 h => ?_)
  refine wr_istore_n (wg_da dt_X12_unlike 25 rfl) (by decide) ?_
  refine wr_iinc (c0 := (1 : Int32)) (wg_da dt_X12_unlike 26 rfl) rfl (by decide) (by decide) h (fun v2 h => ?_)
  refine wr_goto 5 (wg_da dt_X12_unlike 27 rfl) (by decide) ?_
  exact wr_wk [true, true, true, true, true, false] (hk5 x0 x1 x2 v1 v2 σ hx0 h)
set_option maxRecDepth 20000 in
theorem g_X12_unlike_5 (l : Launch) (E : wg_E)  (z : Int32 × wg_M) : ∀ (n : Nat) (x0 : Nat) (x1 : Int32) (x2 : Int32) (x3 : Int32) (x4 : Int32) (σ : wg_M) (hx0 : wg_t Sm x0 = 14) (h : f_X12_unlike_5  n x0 x1 x2 x3 x4 σ = some z), wg_G l E Sm "WornWigsModel" cX12_unlike 6 (some .int) rm_X12_unlike (some z.1) z.2 5 [some (.ref x0), some (.int x1), some (.int x2), some (.int x3), some (.int x4), none] [] σ := by
  intro n
  induction n with
  | zero => intro x0 x1 x2 x3 x4 σ hx0 h; cases h
  | succ n ih =>
    intro x0 x1 x2 x3 x4 σ hx0 h
    refine wr_iload (wg_da dt_X12_unlike 4 rfl) rfl ?_
    refine wr_bipush (8 : Int32) (wg_da dt_X12_unlike 5 rfl) (by decide) ?_
    refine wr_icmp_ge 51 (wg_da dt_X12_unlike 6 rfl) (by decide) h (fun h => ?_) (fun h => ?_)
    · refine wr_iload_n (wg_da dt_X12_unlike 28 rfl) rfl ?_
      exact wr_iret (wg_da dt_X12_unlike 29 rfl) h
    · refine wr_aload_n (wg_da dt_X12_unlike 7 rfl) rfl ?_
      refine wr_iload_n (wg_da dt_X12_unlike 8 rfl) rfl ?_
      refine wr_iload (wg_da dt_X12_unlike 9 rfl) rfl ?_
      refine wr_callVi [.int x1, .int x4] [] (wg_da dt_X12_unlike 10 rfl) ⟨wq_9_33, wq_9_35, wq_p9_9⟩ hx0 ⟨rfl, by decide⟩ wy_X12_rulingFor (fun q hq => m_X12_rulingFor l E x0 x1 x4 hx0 _ q hq) rfl rfl (Nat.le_of_ble_eq_true rfl) ⟨rfl, rfl, by decide, by decide⟩ h (fun v1 s2 h => ?_)
      refine wr_aload_n (wg_da dt_X12_unlike 11 rfl) rfl ?_
      refine wr_iload_n (wg_da dt_X12_unlike 12 rfl) rfl ?_
      refine wr_iload (wg_da dt_X12_unlike 13 rfl) rfl ?_
      refine wr_callVi [.int x2, .int x4] [.int v1] (wg_da dt_X12_unlike 14 rfl) ⟨wq_9_33, wq_9_35, wq_p9_9⟩ hx0 ⟨rfl, by decide⟩ wy_X12_rulingFor (fun q hq => m_X12_rulingFor l E x0 x2 x4 hx0 _ q hq) rfl rfl (Nat.le_of_ble_eq_true rfl) ⟨rfl, rfl, by decide, by decide⟩ h (fun v3 s4 h => ?_)
      refine wr_isub (wg_da dt_X12_unlike 15 rfl) ?_
      refine wr_let h (fun v5 h => ?_)
      refine wr_istore (wg_da dt_X12_unlike 16 rfl) (by decide) ?_
      refine wr_iload_n (wg_da dt_X12_unlike 17 rfl) rfl ?_
      refine wr_iload (wg_da dt_X12_unlike 18 rfl) rfl ?_
      refine wr_if_ge 41 (wg_da dt_X12_unlike 19 rfl) (by decide) h (fun h => ?_) (fun h => ?_)
      · refine wr_iload (wg_da dt_X12_unlike 23 rfl) rfl ?_
        exact wr_wk [true, true, true, false, true, false] (g_X12_unlike_43 l E (f_X12_unlike_5  n) x0 x1 x2 x4 v5 x3 s4 _ hx0 (fun x0 x1 x2 x3 x4 σ hx0 h => ih x0 x1 x2 x3 x4 σ hx0 h) h)
      · refine wr_iload (wg_da dt_X12_unlike 20 rfl) rfl ?_
        refine wr_ineg (wg_da dt_X12_unlike 21 rfl) ?_
        refine wr_goto 43 (wg_da dt_X12_unlike 22 rfl) (by decide) ?_
        exact wr_wk [true, true, true, false, true, false] (g_X12_unlike_43 l E (f_X12_unlike_5  n) x0 x1 x2 x4 (-v5) x3 s4 _ hx0 (fun x0 x1 x2 x3 x4 σ hx0 h => ih x0 x1 x2 x3 x4 σ hx0 h) h)
set_option maxRecDepth 20000 in
theorem g_X12_unlike_e (l : Launch) (E : wg_E)  (x0 : Nat) (x1 : Int32) (x2 : Int32) (σ : wg_M) (z : Int32 × wg_M) (hx0 : wg_t Sm x0 = 14) (h : f_X12_unlike  x0 x1 x2 σ = some z) : wg_G l E Sm "WornWigsModel" cX12_unlike 6 (some .int) rm_X12_unlike (some z.1) z.2 0 [some (.ref x0), some (.int x1), some (.int x2), none, none, none] [] σ := by
  refine wr_iconst (0 : Int32) (wg_da dt_X12_unlike 0 rfl) (by decide) ?_
  refine wr_istore_n (wg_da dt_X12_unlike 1 rfl) (by decide) ?_
  refine wr_iconst (0 : Int32) (wg_da dt_X12_unlike 2 rfl) (by decide) ?_
  refine wr_istore (wg_da dt_X12_unlike 3 rfl) (by decide) ?_
  exact wr_wk [true, true, true, true, true, false] (g_X12_unlike_5 l E  _  wg_N x0 x1 x2 (0 : Int32) (0 : Int32) σ hx0 h)
theorem m_X12_unlike (l : Launch) (E : wg_E) (x0 : Nat) (x1 : Int32) (x2 : Int32) (hx0 : wg_t Sm x0 = 14) (σ : wg_M) (q : Int32 × wg_M) (h : f_X12_unlike x0 x1 x2 σ = some q) : wg_MG l E Sm yX12_unlike cX12_unlike 6 (some .int) rm_X12_unlike [.ref x0, .int x1, .int x2] σ (some q.1) q.2 :=
  wg_met [.ref x0, .int x1, .int x2] (plainFor_of_name (by decide)) (Nat.le_of_ble_eq_true rfl) (g_X12_unlike_e l E x0 x1 x2 σ q hx0 h)
abbrev rm_X12_alike : Room := { frames := 3, cells := 0, slots := 0, locals := 71 }
def tb_X12_alike : List (Nat × Instr × Nat) := [(0, .aload_n 0, 1), (1, .iconst 0, 1), (2, .putfield 113, 3), (5, .aload_n 0, 1), (6, .iload_n 1, 1), (7, .invokevirtual 156, 3), (10, .ifCond .eq 16, 3), (13, .iload_n 2, 1), (14, .iconst (-1), 1), (15, .if_icmp .eq 13, 3), (18, .aload_n 0, 1), (19, .iload_n 2, 1), (20, .invokevirtual 156, 3), (23, .ifCond .ne 5, 3), (26, .iconst (-1), 1), (27, .ireturn, 1), (28, .iload_n 2, 1), (29, .iconst (-1), 1), (30, .if_icmp .eq 10, 3), (33, .aload_n 0, 1), (34, .iload_n 1, 1), (35, .iload_n 2, 1), (36, .invokevirtual 450, 3), (39, .ireturn, 1), (40, .iconst (-1), 1), (41, .istore_n 3, 1), (42, .iconst 0, 1), (43, .istore 4, 2), (45, .iload 4, 2), (47, .aload_n 0, 1), (48, .getfield 125, 3), (51, .if_icmp .ge 39, 3), (54, .iload 4, 2), (56, .iload_n 1, 1), (57, .if_icmp .eq 27, 3), (60, .iload_n 3, 1), (61, .iconst (-1), 1), (62, .if_icmp .eq 19, 3), (65, .aload_n 0, 1), (66, .iload_n 1, 1), (67, .iload 4, 2), (69, .invokevirtual 450, 3), (72, .aload_n 0, 1), (73, .iload_n 1, 1), (74, .iload_n 3, 1), (75, .invokevirtual 450, 3), (78, .if_icmp .ge 6, 3), (81, .iload 4, 2), (83, .istore_n 3, 1), (84, .iinc 4 1, 3), (87, .goto (-42), 3), (90, .iload_n 3, 1), (91, .ireturn, 1)]
theorem dt_X12_alike : wg_dc cX12_alike tb_X12_alike := by unfold wg_dc; decide +kernel
def f_X12_alike_84 (k45 : Nat → Int32 → Int32 → Int32 → wg_M → Option (Int32 × wg_M)) (x0 : Nat) (x1 : Int32) (x3 : Int32) (x4 : Int32) (σ : wg_M) : Option (Int32 × wg_M) := wg_let (x4 + (1 : Int32)) (fun v1 => k45 x0 x1 x3 v1 σ)
def f_X12_alike_81 (k45 : Nat → Int32 → Int32 → Int32 → wg_M → Option (Int32 × wg_M)) (x0 : Nat) (x1 : Int32) (x4 : Int32) (σ : wg_M) : Option (Int32 × wg_M) := f_X12_alike_84 k45 x0 x1 x4 x4 σ
def f_X12_alike_45  : Nat → Nat → Int32 → Int32 → Int32 → wg_M → Option (Int32 × wg_M)
  | 0, _, _, _, _, _ => none
  | n + 1, x0, x1, x3, x4, σ => if (σ x0 6) ≤ x4 then (some (x3, σ)) else (if x4 = x1 then (f_X12_alike_84 (f_X12_alike_45  n) x0 x1 x3 x4 σ) else (if x3 = (-1 : Int32) then (f_X12_alike_81 (f_X12_alike_45  n) x0 x1 x4 σ) else (wg_bd (f_X12_unlike x0 x1 x4 σ) (fun v1 s2 => wg_bd (f_X12_unlike x0 x1 x3 s2) (fun v3 s4 => if v3 ≤ v1 then (f_X12_alike_84 (f_X12_alike_45  n) x0 x1 x3 x4 s4) else (f_X12_alike_81 (f_X12_alike_45  n) x0 x1 x4 s4))))))
def f_X12_alike_28  (x0 : Nat) (x1 : Int32) (x2 : Int32) (σ : wg_M) : Option (Int32 × wg_M) := if x2 = (-1 : Int32) then (f_X12_alike_45  wg_N x0 x1 (-1 : Int32) (0 : Int32) σ) else (wg_bd (f_X12_unlike x0 x1 x2 σ) (fun v1 s2 => some (v1, s2)))
def f_X12_alike  (x0 : Nat) (x1 : Int32) (x2 : Int32) (σ : wg_M) : Option (Int32 × wg_M) := wg_st σ x0 0 (0 : Int32) (fun s1 => wg_bd (f_X12_isWig x0 x1 s1) (fun v2 s3 => if v2 = 0 then (some ((-1 : Int32), s3)) else (if x2 = (-1 : Int32) then (f_X12_alike_28  x0 x1 x2 s3) else (wg_bd (f_X12_isWig x0 x2 s3) (fun v4 s5 => if v4 = 0 then (some ((-1 : Int32), s5)) else (f_X12_alike_28  x0 x1 x2 s5))))))
set_option maxRecDepth 20000 in
theorem g_X12_alike_84 (l : Launch) (E : wg_E) (k45 : Nat → Int32 → Int32 → Int32 → wg_M → Option (Int32 × wg_M)) (x0 : Nat) (x1 : Int32) (x3 : Int32) (x4 : Int32) (σ : wg_M) (z : Int32 × wg_M) (hx0 : wg_t Sm x0 = 14) (hk45 : ∀ (x0 : Nat) (x1 : Int32) (x3 : Int32) (x4 : Int32) (σ : wg_M), wg_t Sm x0 = 14 → k45 x0 x1 x3 x4 σ = some z → wg_G l E Sm "WornWigsModel" cX12_alike 5 (some .int) rm_X12_alike (some z.1) z.2 45 [some (.ref x0), some (.int x1), none, some (.int x3), some (.int x4)] [] σ) (h : f_X12_alike_84 k45 x0 x1 x3 x4 σ = some z) : wg_G l E Sm "WornWigsModel" cX12_alike 5 (some .int) rm_X12_alike (some z.1) z.2 84 [some (.ref x0), some (.int x1), none, some (.int x3), some (.int x4)] [] σ := by
  refine wr_iinc (c0 := (1 : Int32)) (wg_da dt_X12_alike 49 rfl) rfl (by decide) (by decide) h (fun v1 h => ?_)
  refine wr_goto 45 (wg_da dt_X12_alike 50 rfl) (by decide) ?_
  exact wr_wk [true, true, false, true, true] (hk45 x0 x1 x3 v1 σ hx0 h)
set_option maxRecDepth 20000 in
theorem g_X12_alike_81 (l : Launch) (E : wg_E) (k45 : Nat → Int32 → Int32 → Int32 → wg_M → Option (Int32 × wg_M)) (x0 : Nat) (x1 : Int32) (x4 : Int32) (σ : wg_M) (z : Int32 × wg_M) (hx0 : wg_t Sm x0 = 14) (hk45 : ∀ (x0 : Nat) (x1 : Int32) (x3 : Int32) (x4 : Int32) (σ : wg_M), wg_t Sm x0 = 14 → k45 x0 x1 x3 x4 σ = some z → wg_G l E Sm "WornWigsModel" cX12_alike 5 (some .int) rm_X12_alike (some z.1) z.2 45 [some (.ref x0), some (.int x1), none, some (.int x3), some (.int x4)] [] σ) (h : f_X12_alike_81 k45 x0 x1 x4 σ = some z) : wg_G l E Sm "WornWigsModel" cX12_alike 5 (some .int) rm_X12_alike (some z.1) z.2 81 [some (.ref x0), some (.int x1), none, none, some (.int x4)] [] σ := by
  refine wr_iload (wg_da dt_X12_alike 47 rfl) rfl ?_
  refine wr_istore_n (wg_da dt_X12_alike 48 rfl) (by decide) ?_
  exact wr_wk [true, true, false, true, true] (g_X12_alike_84 l E k45 x0 x1 x4 x4 σ _ hx0 hk45 h)
set_option maxRecDepth 20000 in
theorem g_X12_alike_45 (l : Launch) (E : wg_E)  (z : Int32 × wg_M) : ∀ (n : Nat) (x0 : Nat) (x1 : Int32) (x3 : Int32) (x4 : Int32) (σ : wg_M) (hx0 : wg_t Sm x0 = 14) (h : f_X12_alike_45  n x0 x1 x3 x4 σ = some z), wg_G l E Sm "WornWigsModel" cX12_alike 5 (some .int) rm_X12_alike (some z.1) z.2 45 [some (.ref x0), some (.int x1), none, some (.int x3), some (.int x4)] [] σ := by
  intro n
  induction n with
  | zero => intro x0 x1 x3 x4 σ hx0 h; cases h
  | succ n ih =>
    intro x0 x1 x3 x4 σ hx0 h
    refine wr_iload (wg_da dt_X12_alike 28 rfl) rfl ?_
    refine wr_aload_n (wg_da dt_X12_alike 29 rfl) rfl ?_
    refine wr_getI wf_X12_125 (wg_da dt_X12_alike 30 rfl) hx0 ?_
    refine wr_icmp_ge 90 (wg_da dt_X12_alike 31 rfl) (by decide) h (fun h => ?_) (fun h => ?_)
    · refine wr_iload_n (wg_da dt_X12_alike 51 rfl) rfl ?_
      exact wr_iret (wg_da dt_X12_alike 52 rfl) h
    · refine wr_iload (wg_da dt_X12_alike 32 rfl) rfl ?_
      refine wr_iload_n (wg_da dt_X12_alike 33 rfl) rfl ?_
      refine wr_icmp_eq 84 (wg_da dt_X12_alike 34 rfl) (by decide) h (fun h => ?_) (fun h => ?_)
      · exact wr_wk [true, true, false, true, true] (g_X12_alike_84 l E (f_X12_alike_45  n) x0 x1 x3 x4 σ _ hx0 (fun x0 x1 x3 x4 σ hx0 h => ih x0 x1 x3 x4 σ hx0 h) h)
      · refine wr_iload_n (wg_da dt_X12_alike 35 rfl) rfl ?_
        refine wr_iconst (-1 : Int32) (wg_da dt_X12_alike 36 rfl) (by decide) ?_
        refine wr_icmp_eq 81 (wg_da dt_X12_alike 37 rfl) (by decide) h (fun h => ?_) (fun h => ?_)
        · exact wr_wk [true, true, false, false, true] (g_X12_alike_81 l E (f_X12_alike_45  n) x0 x1 x4 σ _ hx0 (fun x0 x1 x3 x4 σ hx0 h => ih x0 x1 x3 x4 σ hx0 h) h)
        · refine wr_aload_n (wg_da dt_X12_alike 38 rfl) rfl ?_
          refine wr_iload_n (wg_da dt_X12_alike 39 rfl) rfl ?_
          refine wr_iload (wg_da dt_X12_alike 40 rfl) rfl ?_
          refine wr_callVi [.int x1, .int x4] [] (wg_da dt_X12_alike 41 rfl) ⟨wq_9_29, wq_9_31, wq_p9_8⟩ hx0 ⟨rfl, by decide⟩ wy_X12_unlike (fun q hq => m_X12_unlike l E x0 x1 x4 hx0 _ q hq) rfl rfl (Nat.le_of_ble_eq_true rfl) ⟨rfl, rfl, by decide, by decide⟩ h (fun v1 s2 h => ?_)
          refine wr_aload_n (wg_da dt_X12_alike 42 rfl) rfl ?_
          refine wr_iload_n (wg_da dt_X12_alike 43 rfl) rfl ?_
          refine wr_iload_n (wg_da dt_X12_alike 44 rfl) rfl ?_
          refine wr_callVi [.int x1, .int x3] [.int v1] (wg_da dt_X12_alike 45 rfl) ⟨wq_9_29, wq_9_31, wq_p9_8⟩ hx0 ⟨rfl, by decide⟩ wy_X12_unlike (fun q hq => m_X12_unlike l E x0 x1 x3 hx0 _ q hq) rfl rfl (Nat.le_of_ble_eq_true rfl) ⟨rfl, rfl, by decide, by decide⟩ h (fun v3 s4 h => ?_)
          refine wr_icmp_ge 84 (wg_da dt_X12_alike 46 rfl) (by decide) h (fun h => ?_) (fun h => ?_)
          · exact wr_wk [true, true, false, true, true] (g_X12_alike_84 l E (f_X12_alike_45  n) x0 x1 x3 x4 s4 _ hx0 (fun x0 x1 x3 x4 σ hx0 h => ih x0 x1 x3 x4 σ hx0 h) h)
          · exact wr_wk [true, true, false, false, true] (g_X12_alike_81 l E (f_X12_alike_45  n) x0 x1 x4 s4 _ hx0 (fun x0 x1 x3 x4 σ hx0 h => ih x0 x1 x3 x4 σ hx0 h) h)
set_option maxRecDepth 20000 in
theorem g_X12_alike_28 (l : Launch) (E : wg_E)  (x0 : Nat) (x1 : Int32) (x2 : Int32) (σ : wg_M) (z : Int32 × wg_M) (hx0 : wg_t Sm x0 = 14) (h : f_X12_alike_28  x0 x1 x2 σ = some z) : wg_G l E Sm "WornWigsModel" cX12_alike 5 (some .int) rm_X12_alike (some z.1) z.2 28 [some (.ref x0), some (.int x1), some (.int x2), none, none] [] σ := by
  refine wr_iload_n (wg_da dt_X12_alike 16 rfl) rfl ?_
  refine wr_iconst (-1 : Int32) (wg_da dt_X12_alike 17 rfl) (by decide) ?_
  refine wr_icmp_eq 40 (wg_da dt_X12_alike 18 rfl) (by decide) h (fun h => ?_) (fun h => ?_)
  · refine wr_iconst (-1 : Int32) (wg_da dt_X12_alike 24 rfl) (by decide) ?_
    refine wr_istore_n (wg_da dt_X12_alike 25 rfl) (by decide) ?_
    refine wr_iconst (0 : Int32) (wg_da dt_X12_alike 26 rfl) (by decide) ?_
    refine wr_istore (wg_da dt_X12_alike 27 rfl) (by decide) ?_
    exact wr_wk [true, true, false, true, true] (g_X12_alike_45 l E  _  wg_N x0 x1 (-1 : Int32) (0 : Int32) σ hx0 h)
  · refine wr_aload_n (wg_da dt_X12_alike 19 rfl) rfl ?_
    refine wr_iload_n (wg_da dt_X12_alike 20 rfl) rfl ?_
    refine wr_iload_n (wg_da dt_X12_alike 21 rfl) rfl ?_
    refine wr_callVi [.int x1, .int x2] [] (wg_da dt_X12_alike 22 rfl) ⟨wq_9_29, wq_9_31, wq_p9_8⟩ hx0 ⟨rfl, by decide⟩ wy_X12_unlike (fun q hq => m_X12_unlike l E x0 x1 x2 hx0 _ q hq) rfl rfl (Nat.le_of_ble_eq_true rfl) ⟨rfl, rfl, by decide, by decide⟩ h (fun v1 s2 h => ?_)
    exact wr_iret (wg_da dt_X12_alike 23 rfl) h
set_option maxRecDepth 20000 in
theorem g_X12_alike_e (l : Launch) (E : wg_E)  (x0 : Nat) (x1 : Int32) (x2 : Int32) (σ : wg_M) (z : Int32 × wg_M) (hx0 : wg_t Sm x0 = 14) (h : f_X12_alike  x0 x1 x2 σ = some z) : wg_G l E Sm "WornWigsModel" cX12_alike 5 (some .int) rm_X12_alike (some z.1) z.2 0 [some (.ref x0), some (.int x1), some (.int x2), none, none] [] σ := by
  refine wr_aload_n (wg_da dt_X12_alike 0 rfl) rfl ?_
  refine wr_iconst (0 : Int32) (wg_da dt_X12_alike 1 rfl) (by decide) ?_
  refine wr_putI wfp_X12_113 (wg_da dt_X12_alike 2 rfl) hx0 h (fun s1 h => ?_)
  refine wr_aload_n (wg_da dt_X12_alike 3 rfl) rfl ?_
  refine wr_iload_n (wg_da dt_X12_alike 4 rfl) rfl ?_
  refine wr_callVi [.int x1] [] (wg_da dt_X12_alike 5 rfl) ⟨wq_7_98, wq_7_100, wq_p4_4⟩ hx0 ⟨rfl, by decide⟩ wy_X12_isWig (fun q hq => m_X12_isWig l E x0 x1 hx0 _ q hq) rfl rfl (Nat.le_of_ble_eq_true rfl) ⟨rfl, rfl, by decide, by decide⟩ h (fun v2 s3 h => ?_)
  refine wr_if_eq 26 (wg_da dt_X12_alike 6 rfl) (by decide) h (fun h => ?_) (fun h => ?_)
  · refine wr_iconst (-1 : Int32) (wg_da dt_X12_alike 14 rfl) (by decide) ?_
    exact wr_iret (wg_da dt_X12_alike 15 rfl) h
  · refine wr_iload_n (wg_da dt_X12_alike 7 rfl) rfl ?_
    refine wr_iconst (-1 : Int32) (wg_da dt_X12_alike 8 rfl) (by decide) ?_
    refine wr_icmp_eq 28 (wg_da dt_X12_alike 9 rfl) (by decide) h (fun h => ?_) (fun h => ?_)
    · exact wr_wk [true, true, true, false, false] (g_X12_alike_28 l E  x0 x1 x2 s3 _ hx0  h)
    · refine wr_aload_n (wg_da dt_X12_alike 10 rfl) rfl ?_
      refine wr_iload_n (wg_da dt_X12_alike 11 rfl) rfl ?_
      refine wr_callVi [.int x2] [] (wg_da dt_X12_alike 12 rfl) ⟨wq_7_98, wq_7_100, wq_p4_4⟩ hx0 ⟨rfl, by decide⟩ wy_X12_isWig (fun q hq => m_X12_isWig l E x0 x2 hx0 _ q hq) rfl rfl (Nat.le_of_ble_eq_true rfl) ⟨rfl, rfl, by decide, by decide⟩ h (fun v4 s5 h => ?_)
      refine wr_if_ne 28 (wg_da dt_X12_alike 13 rfl) (by decide) h (fun h => ?_) (fun h => ?_)
      · refine wr_iconst (-1 : Int32) (wg_da dt_X12_alike 14 rfl) (by decide) ?_
        exact wr_iret (wg_da dt_X12_alike 15 rfl) h
      · exact wr_wk [true, true, true, false, false] (g_X12_alike_28 l E  x0 x1 x2 s5 _ hx0  h)
theorem m_X12_alike (l : Launch) (E : wg_E) (x0 : Nat) (x1 : Int32) (x2 : Int32) (hx0 : wg_t Sm x0 = 14) (σ : wg_M) (q : Int32 × wg_M) (h : f_X12_alike x0 x1 x2 σ = some q) : wg_MG l E Sm yX12_alike cX12_alike 5 (some .int) rm_X12_alike [.ref x0, .int x1, .int x2] σ (some q.1) q.2 :=
  wg_met [.ref x0, .int x1, .int x2] (plainFor_of_name (by decide)) (Nat.le_of_ble_eq_true rfl) (g_X12_alike_e l E x0 x1 x2 σ q hx0 h)
abbrev rm_X12_heir : Room := { frames := 4, cells := 0, slots := 0, locals := 88 }
def tb_X12_heir : List (Nat × Instr × Nat) := [(0, .aload_n 0, 1), (1, .iconst 0, 1), (2, .putfield 113, 3), (5, .aload_n 0, 1), (6, .iload_n 1, 1), (7, .invokevirtual 156, 3), (10, .ifCond .eq 23, 3), (13, .aload_n 0, 1), (14, .iload_n 2, 1), (15, .iconst 1, 1), (16, .bipush 9, 2), (18, .invokevirtual 153, 3), (21, .ifCond .eq 12, 3), (24, .aload_n 0, 1), (25, .iload_n 1, 1), (26, .invokevirtual 380, 3), (29, .iconst (-1), 1), (30, .if_icmp .ne 5, 3), (33, .iconst (-1), 1), (34, .ireturn, 1), (35, .aload_n 0, 1), (36, .invokevirtual 429, 3), (39, .iconst 0, 1), (40, .istore_n 3, 1), (41, .iload_n 3, 1), (42, .iload_n 2, 1), (43, .if_icmp .ge 27, 3), (46, .aload_n 0, 1), (47, .iload_n 1, 1), (48, .invokevirtual 380, 3), (51, .iconst (-1), 1), (52, .if_icmp .eq 18, 3), (55, .aload_n 0, 1), (56, .aload_n 0, 1), (57, .iload_n 1, 1), (58, .invokevirtual 380, 3), (61, .invokevirtual 419, 3), (64, .iinc 3 1, 3), (67, .goto (-26), 3), (70, .aload_n 0, 1), (71, .iload_n 1, 1), (72, .invokevirtual 380, 3), (75, .istore_n 3, 1), (76, .aload_n 0, 1), (77, .invokevirtual 438, 3), (80, .iload_n 3, 1), (81, .ireturn, 1)]
theorem dt_X12_heir : wg_dc cX12_heir tb_X12_heir := by unfold wg_dc; decide +kernel
def f_X12_heir_70  (x0 : Nat) (x1 : Int32) (σ : wg_M) : Option (Int32 × wg_M) := wg_bd (f_X12_wearerOf x0 x1 σ) (fun v1 s2 => wg_bd (f_X12_endsThought x0 s2) (fun _ s3 => some (v1, s3)))
def f_X12_heir_41  : Nat → Nat → Int32 → Int32 → Int32 → wg_M → Option (Int32 × wg_M)
  | 0, _, _, _, _, _ => none
  | n + 1, x0, x1, x2, x3, σ => if x2 ≤ x3 then (f_X12_heir_70  x0 x1 σ) else (wg_bd (f_X12_wearerOf x0 x1 σ) (fun v1 s2 => if v1 = (-1 : Int32) then (f_X12_heir_70  x0 x1 s2) else (wg_bd (f_X12_wearerOf x0 x1 s2) (fun v3 s4 => wg_bd (f_X12_dies x0 v3 s4) (fun _ s5 => wg_let (x3 + (1 : Int32)) (fun v6 => f_X12_heir_41  n x0 x1 x2 v6 s5))))))
def f_X12_heir  (x0 : Nat) (x1 : Int32) (x2 : Int32) (σ : wg_M) : Option (Int32 × wg_M) := wg_st σ x0 0 (0 : Int32) (fun s1 => wg_bd (f_X12_isWig x0 x1 s1) (fun v2 s3 => if v2 = 0 then (some ((-1 : Int32), s3)) else (wg_bd (f_X12_isIn x0 x2 (1 : Int32) (9 : Int32) s3) (fun v4 s5 => if v4 = 0 then (some ((-1 : Int32), s5)) else (wg_bd (f_X12_wearerOf x0 x1 s5) (fun v6 s7 => if v6 = (-1 : Int32) then (some ((-1 : Int32), s7)) else (wg_bd (f_X12_thinks x0 s7) (fun _ s8 => f_X12_heir_41  wg_N x0 x1 x2 (0 : Int32) s8))))))))
set_option maxRecDepth 20000 in
theorem g_X12_heir_70 (l : Launch) (E : wg_E)  (x0 : Nat) (x1 : Int32) (σ : wg_M) (z : Int32 × wg_M) (hx0 : wg_t Sm x0 = 14) (h : f_X12_heir_70  x0 x1 σ = some z) : wg_G l E Sm "WornWigsModel" cX12_heir 4 (some .int) rm_X12_heir (some z.1) z.2 70 [some (.ref x0), some (.int x1), none, none] [] σ := by
  refine wr_aload_n (wg_da dt_X12_heir 39 rfl) rfl ?_
  refine wr_iload_n (wg_da dt_X12_heir 40 rfl) rfl ?_
  refine wr_callVi [.int x1] [] (wg_da dt_X12_heir 41 rfl) ⟨wq_8_138, wq_8_140, wq_p8_3⟩ hx0 ⟨rfl, by decide⟩ wy_X12_wearerOf (fun q hq => m_X12_wearerOf l E x0 x1 hx0 _ q hq) rfl rfl (Nat.le_of_ble_eq_true rfl) ⟨rfl, rfl, by decide, by decide⟩ h (fun v1 s2 h => ?_)
  refine wr_istore_n (wg_da dt_X12_heir 42 rfl) (by decide) ?_
  refine wr_aload_n (wg_da dt_X12_heir 43 rfl) rfl ?_
  refine wr_callVv [] [] (wg_da dt_X12_heir 44 rfl) ⟨wq_9_1, wq_9_3, wq_p9_5⟩ hx0 ⟨rfl, by decide⟩ wy_X12_endsThought (fun q hq => m_X12_endsThought l E x0 hx0 _ q hq) rfl rfl (Nat.le_of_ble_eq_true rfl) ⟨rfl, rfl, by decide, by decide⟩ h (fun _ s3 h => ?_)
  refine wr_iload_n (wg_da dt_X12_heir 45 rfl) rfl ?_
  exact wr_iret (wg_da dt_X12_heir 46 rfl) h
set_option maxRecDepth 20000 in
theorem g_X12_heir_41 (l : Launch) (E : wg_E)  (z : Int32 × wg_M) : ∀ (n : Nat) (x0 : Nat) (x1 : Int32) (x2 : Int32) (x3 : Int32) (σ : wg_M) (hx0 : wg_t Sm x0 = 14) (h : f_X12_heir_41  n x0 x1 x2 x3 σ = some z), wg_G l E Sm "WornWigsModel" cX12_heir 4 (some .int) rm_X12_heir (some z.1) z.2 41 [some (.ref x0), some (.int x1), some (.int x2), some (.int x3)] [] σ := by
  intro n
  induction n with
  | zero => intro x0 x1 x2 x3 σ hx0 h; cases h
  | succ n ih =>
    intro x0 x1 x2 x3 σ hx0 h
    refine wr_iload_n (wg_da dt_X12_heir 24 rfl) rfl ?_
    refine wr_iload_n (wg_da dt_X12_heir 25 rfl) rfl ?_
    refine wr_icmp_ge 70 (wg_da dt_X12_heir 26 rfl) (by decide) h (fun h => ?_) (fun h => ?_)
    · exact wr_wk [true, true, false, false] (g_X12_heir_70 l E  x0 x1 σ _ hx0  h)
    · refine wr_aload_n (wg_da dt_X12_heir 27 rfl) rfl ?_
      refine wr_iload_n (wg_da dt_X12_heir 28 rfl) rfl ?_
      refine wr_callVi [.int x1] [] (wg_da dt_X12_heir 29 rfl) ⟨wq_8_138, wq_8_140, wq_p8_3⟩ hx0 ⟨rfl, by decide⟩ wy_X12_wearerOf (fun q hq => m_X12_wearerOf l E x0 x1 hx0 _ q hq) rfl rfl (Nat.le_of_ble_eq_true rfl) ⟨rfl, rfl, by decide, by decide⟩ h (fun v1 s2 h => ?_)
      refine wr_iconst (-1 : Int32) (wg_da dt_X12_heir 30 rfl) (by decide) ?_
      refine wr_icmp_eq 70 (wg_da dt_X12_heir 31 rfl) (by decide) h (fun h => ?_) (fun h => ?_)
      · exact wr_wk [true, true, false, false] (g_X12_heir_70 l E  x0 x1 s2 _ hx0  h)
      · refine wr_aload_n (wg_da dt_X12_heir 32 rfl) rfl ?_
        refine wr_aload_n (wg_da dt_X12_heir 33 rfl) rfl ?_
        refine wr_iload_n (wg_da dt_X12_heir 34 rfl) rfl ?_
        refine wr_callVi [.int x1] [.ref x0] (wg_da dt_X12_heir 35 rfl) ⟨wq_8_138, wq_8_140, wq_p8_3⟩ hx0 ⟨rfl, by decide⟩ wy_X12_wearerOf (fun q hq => m_X12_wearerOf l E x0 x1 hx0 _ q hq) rfl rfl (Nat.le_of_ble_eq_true rfl) ⟨rfl, rfl, by decide, by decide⟩ h (fun v3 s4 h => ?_)
        refine wr_callVv [.int v3] [] (wg_da dt_X12_heir 36 rfl) ⟨wq_8_188, wq_8_190, wq_p8_14⟩ hx0 ⟨rfl, by decide⟩ wy_X12_dies (fun q hq => m_X12_dies l E x0 v3 hx0 _ q hq) rfl rfl (Nat.le_of_ble_eq_true rfl) ⟨rfl, rfl, by decide, by decide⟩ h (fun _ s5 h => ?_)
        refine wr_iinc (c0 := (1 : Int32)) (wg_da dt_X12_heir 37 rfl) rfl (by decide) (by decide) h (fun v6 h => ?_)
        refine wr_goto 41 (wg_da dt_X12_heir 38 rfl) (by decide) ?_
        exact wr_wk [true, true, true, true] (ih x0 x1 x2 v6 s5 hx0 h)
set_option maxRecDepth 20000 in
theorem g_X12_heir_e (l : Launch) (E : wg_E)  (x0 : Nat) (x1 : Int32) (x2 : Int32) (σ : wg_M) (z : Int32 × wg_M) (hx0 : wg_t Sm x0 = 14) (h : f_X12_heir  x0 x1 x2 σ = some z) : wg_G l E Sm "WornWigsModel" cX12_heir 4 (some .int) rm_X12_heir (some z.1) z.2 0 [some (.ref x0), some (.int x1), some (.int x2), none] [] σ := by
  refine wr_aload_n (wg_da dt_X12_heir 0 rfl) rfl ?_
  refine wr_iconst (0 : Int32) (wg_da dt_X12_heir 1 rfl) (by decide) ?_
  refine wr_putI wfp_X12_113 (wg_da dt_X12_heir 2 rfl) hx0 h (fun s1 h => ?_)
  refine wr_aload_n (wg_da dt_X12_heir 3 rfl) rfl ?_
  refine wr_iload_n (wg_da dt_X12_heir 4 rfl) rfl ?_
  refine wr_callVi [.int x1] [] (wg_da dt_X12_heir 5 rfl) ⟨wq_7_98, wq_7_100, wq_p4_4⟩ hx0 ⟨rfl, by decide⟩ wy_X12_isWig (fun q hq => m_X12_isWig l E x0 x1 hx0 _ q hq) rfl rfl (Nat.le_of_ble_eq_true rfl) ⟨rfl, rfl, by decide, by decide⟩ h (fun v2 s3 h => ?_)
  refine wr_if_eq 33 (wg_da dt_X12_heir 6 rfl) (by decide) h (fun h => ?_) (fun h => ?_)
  · refine wr_iconst (-1 : Int32) (wg_da dt_X12_heir 18 rfl) (by decide) ?_
    exact wr_iret (wg_da dt_X12_heir 19 rfl) h
  · refine wr_aload_n (wg_da dt_X12_heir 7 rfl) rfl ?_
    refine wr_iload_n (wg_da dt_X12_heir 8 rfl) rfl ?_
    refine wr_iconst (1 : Int32) (wg_da dt_X12_heir 9 rfl) (by decide) ?_
    refine wr_bipush (9 : Int32) (wg_da dt_X12_heir 10 rfl) (by decide) ?_
    refine wr_callVi [.int x2, .int (1 : Int32), .int (9 : Int32)] [] (wg_da dt_X12_heir 11 rfl) ⟨wq_7_82, wq_7_84, wq_p4_3⟩ hx0 ⟨rfl, by decide⟩ wy_X12_isIn (fun q hq => m_X12_isIn l E x0 x2 (1 : Int32) (9 : Int32) hx0 _ q hq) rfl rfl (Nat.le_of_ble_eq_true rfl) ⟨rfl, rfl, by decide, by decide⟩ h (fun v4 s5 h => ?_)
    refine wr_if_eq 33 (wg_da dt_X12_heir 12 rfl) (by decide) h (fun h => ?_) (fun h => ?_)
    · refine wr_iconst (-1 : Int32) (wg_da dt_X12_heir 18 rfl) (by decide) ?_
      exact wr_iret (wg_da dt_X12_heir 19 rfl) h
    · refine wr_aload_n (wg_da dt_X12_heir 13 rfl) rfl ?_
      refine wr_iload_n (wg_da dt_X12_heir 14 rfl) rfl ?_
      refine wr_callVi [.int x1] [] (wg_da dt_X12_heir 15 rfl) ⟨wq_8_138, wq_8_140, wq_p8_3⟩ hx0 ⟨rfl, by decide⟩ wy_X12_wearerOf (fun q hq => m_X12_wearerOf l E x0 x1 hx0 _ q hq) rfl rfl (Nat.le_of_ble_eq_true rfl) ⟨rfl, rfl, by decide, by decide⟩ h (fun v6 s7 h => ?_)
      refine wr_iconst (-1 : Int32) (wg_da dt_X12_heir 16 rfl) (by decide) ?_
      refine wr_icmp_ne 35 (wg_da dt_X12_heir 17 rfl) (by decide) h (fun h => ?_) (fun h => ?_)
      · refine wr_iconst (-1 : Int32) (wg_da dt_X12_heir 18 rfl) (by decide) ?_
        exact wr_iret (wg_da dt_X12_heir 19 rfl) h
      · refine wr_aload_n (wg_da dt_X12_heir 20 rfl) rfl ?_
        refine wr_callVv [] [] (wg_da dt_X12_heir 21 rfl) ⟨wq_8_229, wq_8_231, wq_p9_2⟩ hx0 ⟨rfl, by decide⟩ wy_X12_thinks (fun q hq => m_X12_thinks l E x0 hx0 _ q hq) rfl rfl (Nat.le_of_ble_eq_true rfl) ⟨rfl, rfl, by decide, by decide⟩ h (fun _ s8 h => ?_)
        refine wr_iconst (0 : Int32) (wg_da dt_X12_heir 22 rfl) (by decide) ?_
        refine wr_istore_n (wg_da dt_X12_heir 23 rfl) (by decide) ?_
        exact wr_wk [true, true, true, true] (g_X12_heir_41 l E  _  wg_N x0 x1 x2 (0 : Int32) s8 hx0 h)
theorem m_X12_heir (l : Launch) (E : wg_E) (x0 : Nat) (x1 : Int32) (x2 : Int32) (hx0 : wg_t Sm x0 = 14) (σ : wg_M) (q : Int32 × wg_M) (h : f_X12_heir x0 x1 x2 σ = some q) : wg_MG l E Sm yX12_heir cX12_heir 4 (some .int) rm_X12_heir [.ref x0, .int x1, .int x2] σ (some q.1) q.2 :=
  wg_met [.ref x0, .int x1, .int x2] (plainFor_of_name (by decide)) (Nat.le_of_ble_eq_true rfl) (g_X12_heir_e l E x0 x1 x2 σ q hx0 h)
abbrev rm_X12_afterOf : Room := { frames := 0, cells := 0, slots := 0, locals := 0 }
def tb_X12_afterOf : List (Nat × Instr × Nat) := [(0, .aload_n 0, 1), (1, .getfield 74, 3), (4, .iload_n 1, 1), (5, .iaload, 1), (6, .iconst 1, 1), (7, .isub, 1), (8, .ireturn, 1)]
theorem dt_X12_afterOf : wg_dc cX12_afterOf tb_X12_afterOf := by unfold wg_dc; decide +kernel
def f_X12_afterOf  (x0 : Nat) (x1 : Int32) (σ : wg_M) : Option (Int32 × wg_M) := wg_ga (wg_n Sm (wg_r Sm x0 42)) (σ (wg_r Sm x0 42)) x1 (fun v1 => some (v1 - (1 : Int32), σ))
set_option maxRecDepth 20000 in
theorem g_X12_afterOf_e (l : Launch) (E : wg_E)  (x0 : Nat) (x1 : Int32) (σ : wg_M) (z : Int32 × wg_M) (hx0 : wg_t Sm x0 = 14) (h : f_X12_afterOf  x0 x1 σ = some z) : wg_G l E Sm "WornWigsModel" cX12_afterOf 2 (some .int) rm_X12_afterOf (some z.1) z.2 0 [some (.ref x0), some (.int x1)] [] σ := by
  refine wr_aload_n (wg_da dt_X12_afterOf 0 rfl) rfl ?_
  refine wr_getR wf_X12_74 (wg_da dt_X12_afterOf 1 rfl) hx0 ?_
  refine wr_iload_n (wg_da dt_X12_afterOf 2 rfl) rfl ?_
  refine wr_iald (wg_da dt_X12_afterOf 3 rfl) (wg_ty Sm_ok 12 42 0 hx0 rfl (by decide)).2 h (fun v1 h => ?_)
  refine wr_iconst (1 : Int32) (wg_da dt_X12_afterOf 4 rfl) (by decide) ?_
  refine wr_isub (wg_da dt_X12_afterOf 5 rfl) ?_
  exact wr_iret (wg_da dt_X12_afterOf 6 rfl) h
theorem m_X12_afterOf (l : Launch) (E : wg_E) (x0 : Nat) (x1 : Int32) (hx0 : wg_t Sm x0 = 14) (σ : wg_M) (q : Int32 × wg_M) (h : f_X12_afterOf x0 x1 σ = some q) : wg_MG l E Sm yX12_afterOf cX12_afterOf 2 (some .int) rm_X12_afterOf [.ref x0, .int x1] σ (some q.1) q.2 :=
  wg_met [.ref x0, .int x1] (plainFor_of_name (by decide)) (Nat.le_of_ble_eq_true rfl) (g_X12_afterOf_e l E x0 x1 σ q hx0 h)
abbrev rm_X12_backFrom : Room := { frames := 1, cells := 0, slots := 0, locals := 22 }
def tb_X12_backFrom : List (Nat × Instr × Nat) := [(0, .iconst 0, 1), (1, .istore_n 2, 1), (2, .iload_n 1, 1), (3, .istore_n 3, 1), (4, .iload_n 3, 1), (5, .iconst (-1), 1), (6, .if_icmp .eq 27, 3), (9, .aload_n 0, 1), (10, .iload_n 2, 1), (11, .iload_n 3, 1), (12, .invokevirtual 441, 3), (15, .ifCond .ne 18, 3), (18, .iload_n 2, 1), (19, .iconst 1, 1), (20, .iload_n 3, 1), (21, .ishl, 1), (22, .ior, 1), (23, .istore_n 2, 1), (24, .aload_n 0, 1), (25, .iload_n 3, 1), (26, .invokevirtual 453, 3), (29, .istore_n 3, 1), (30, .goto (-26), 3), (33, .iload_n 2, 1), (34, .ireturn, 1)]
theorem dt_X12_backFrom : wg_dc cX12_backFrom tb_X12_backFrom := by unfold wg_dc; decide +kernel
def f_X12_backFrom_4  : Nat → Nat → Int32 → Int32 → wg_M → Option (Int32 × wg_M)
  | 0, _, _, _, _ => none
  | n + 1, x0, x2, x3, σ => if x3 = (-1 : Int32) then (some (x2, σ)) else (wg_bd (f_X12_has x0 x2 x3 σ) (fun v1 s2 => if v1 = 0 then (wg_let (x2 ||| ((1 : Int32) <<< (x3 &&& 31))) (fun v3 => wg_bd (f_X12_afterOf x0 x3 s2) (fun v4 s5 => f_X12_backFrom_4  n x0 v3 v4 s5))) else (some (x2, s2))))
def f_X12_backFrom  (x0 : Nat) (x1 : Int32) (σ : wg_M) : Option (Int32 × wg_M) := f_X12_backFrom_4  wg_N x0 (0 : Int32) x1 σ
set_option maxRecDepth 20000 in
theorem g_X12_backFrom_4 (l : Launch) (E : wg_E)  (z : Int32 × wg_M) : ∀ (n : Nat) (x0 : Nat) (x2 : Int32) (x3 : Int32) (σ : wg_M) (hx0 : wg_t Sm x0 = 14) (h : f_X12_backFrom_4  n x0 x2 x3 σ = some z), wg_G l E Sm "WornWigsModel" cX12_backFrom 4 (some .int) rm_X12_backFrom (some z.1) z.2 4 [some (.ref x0), none, some (.int x2), some (.int x3)] [] σ := by
  intro n
  induction n with
  | zero => intro x0 x2 x3 σ hx0 h; cases h
  | succ n ih =>
    intro x0 x2 x3 σ hx0 h
    refine wr_iload_n (wg_da dt_X12_backFrom 4 rfl) rfl ?_
    refine wr_iconst (-1 : Int32) (wg_da dt_X12_backFrom 5 rfl) (by decide) ?_
    refine wr_icmp_eq 33 (wg_da dt_X12_backFrom 6 rfl) (by decide) h (fun h => ?_) (fun h => ?_)
    · refine wr_iload_n (wg_da dt_X12_backFrom 23 rfl) rfl ?_
      exact wr_iret (wg_da dt_X12_backFrom 24 rfl) h
    · refine wr_aload_n (wg_da dt_X12_backFrom 7 rfl) rfl ?_
      refine wr_iload_n (wg_da dt_X12_backFrom 8 rfl) rfl ?_
      refine wr_iload_n (wg_da dt_X12_backFrom 9 rfl) rfl ?_
      refine wr_callVi [.int x2, .int x3] [] (wg_da dt_X12_backFrom 10 rfl) ⟨wq_9_21, wq_9_23, wq_p9_7⟩ hx0 ⟨rfl, by decide⟩ wy_X12_has (fun q hq => m_X12_has l E x0 x2 x3 hx0 _ q hq) rfl rfl (Nat.le_of_ble_eq_true rfl) ⟨rfl, rfl, by decide, by decide⟩ h (fun v1 s2 h => ?_)
      refine wr_if_ne 33 (wg_da dt_X12_backFrom 11 rfl) (by decide) h (fun h => ?_) (fun h => ?_)
      · refine wr_iload_n (wg_da dt_X12_backFrom 12 rfl) rfl ?_
        refine wr_iconst (1 : Int32) (wg_da dt_X12_backFrom 13 rfl) (by decide) ?_
        refine wr_iload_n (wg_da dt_X12_backFrom 14 rfl) rfl ?_
        refine wr_ishl (wg_da dt_X12_backFrom 15 rfl) ?_
        refine wr_ior (wg_da dt_X12_backFrom 16 rfl) ?_
        refine wr_let h (fun v3 h => ?_)
        refine wr_istore_n (wg_da dt_X12_backFrom 17 rfl) (by decide) ?_
        refine wr_aload_n (wg_da dt_X12_backFrom 18 rfl) rfl ?_
        refine wr_iload_n (wg_da dt_X12_backFrom 19 rfl) rfl ?_
        refine wr_callVi [.int x3] [] (wg_da dt_X12_backFrom 20 rfl) ⟨wq_9_49, wq_9_51, wq_p9_11⟩ hx0 ⟨rfl, by decide⟩ wy_X12_afterOf (fun q hq => m_X12_afterOf l E x0 x3 hx0 _ q hq) rfl rfl (Nat.le_of_ble_eq_true rfl) ⟨rfl, rfl, by decide, by decide⟩ h (fun v4 s5 h => ?_)
        refine wr_istore_n (wg_da dt_X12_backFrom 21 rfl) (by decide) ?_
        refine wr_goto 4 (wg_da dt_X12_backFrom 22 rfl) (by decide) ?_
        exact wr_wk [true, false, true, true] (ih x0 v3 v4 s5 hx0 h)
      · refine wr_iload_n (wg_da dt_X12_backFrom 23 rfl) rfl ?_
        exact wr_iret (wg_da dt_X12_backFrom 24 rfl) h
set_option maxRecDepth 20000 in
theorem g_X12_backFrom_e (l : Launch) (E : wg_E)  (x0 : Nat) (x1 : Int32) (σ : wg_M) (z : Int32 × wg_M) (hx0 : wg_t Sm x0 = 14) (h : f_X12_backFrom  x0 x1 σ = some z) : wg_G l E Sm "WornWigsModel" cX12_backFrom 4 (some .int) rm_X12_backFrom (some z.1) z.2 0 [some (.ref x0), some (.int x1), none, none] [] σ := by
  refine wr_iconst (0 : Int32) (wg_da dt_X12_backFrom 0 rfl) (by decide) ?_
  refine wr_istore_n (wg_da dt_X12_backFrom 1 rfl) (by decide) ?_
  refine wr_iload_n (wg_da dt_X12_backFrom 2 rfl) rfl ?_
  refine wr_istore_n (wg_da dt_X12_backFrom 3 rfl) (by decide) ?_
  exact wr_wk [true, false, true, true] (g_X12_backFrom_4 l E  _  wg_N x0 (0 : Int32) x1 σ hx0 h)
theorem m_X12_backFrom (l : Launch) (E : wg_E) (x0 : Nat) (x1 : Int32) (hx0 : wg_t Sm x0 = 14) (σ : wg_M) (q : Int32 × wg_M) (h : f_X12_backFrom x0 x1 σ = some q) : wg_MG l E Sm yX12_backFrom cX12_backFrom 4 (some .int) rm_X12_backFrom [.ref x0, .int x1] σ (some q.1) q.2 :=
  wg_met [.ref x0, .int x1] (plainFor_of_name (by decide)) (Nat.le_of_ble_eq_true rfl) (g_X12_backFrom_e l E x0 x1 σ q hx0 h)
abbrev rm_X12_rootOf : Room := { frames := 1, cells := 0, slots := 0, locals := 22 }
def tb_X12_rootOf : List (Nat × Instr × Nat) := [(0, .iconst 1, 1), (1, .iload_n 1, 1), (2, .ishl, 1), (3, .istore_n 2, 1), (4, .iload_n 1, 1), (5, .istore_n 3, 1), (6, .aload_n 0, 1), (7, .iload_n 3, 1), (8, .invokevirtual 453, 3), (11, .iconst (-1), 1), (12, .if_icmp .eq 29, 3), (15, .aload_n 0, 1), (16, .iload_n 3, 1), (17, .invokevirtual 453, 3), (20, .istore_n 3, 1), (21, .aload_n 0, 1), (22, .iload_n 2, 1), (23, .iload_n 3, 1), (24, .invokevirtual 441, 3), (27, .ifCond .eq 5, 3), (30, .iload_n 3, 1), (31, .ireturn, 1), (32, .iload_n 2, 1), (33, .iconst 1, 1), (34, .iload_n 3, 1), (35, .ishl, 1), (36, .ior, 1), (37, .istore_n 2, 1), (38, .goto (-32), 3), (41, .iload_n 3, 1), (42, .ireturn, 1)]
theorem dt_X12_rootOf : wg_dc cX12_rootOf tb_X12_rootOf := by unfold wg_dc; decide +kernel
def f_X12_rootOf_6  : Nat → Nat → Int32 → Int32 → wg_M → Option (Int32 × wg_M)
  | 0, _, _, _, _ => none
  | n + 1, x0, x2, x3, σ => wg_bd (f_X12_afterOf x0 x3 σ) (fun v1 s2 => if v1 = (-1 : Int32) then (some (x3, s2)) else (wg_bd (f_X12_afterOf x0 x3 s2) (fun v3 s4 => wg_bd (f_X12_has x0 x2 v3 s4) (fun v5 s6 => if v5 = 0 then (wg_let (x2 ||| ((1 : Int32) <<< (v3 &&& 31))) (fun v7 => f_X12_rootOf_6  n x0 v7 v3 s6)) else (some (v3, s6))))))
def f_X12_rootOf  (x0 : Nat) (x1 : Int32) (σ : wg_M) : Option (Int32 × wg_M) := wg_let ((1 : Int32) <<< (x1 &&& 31)) (fun v1 => f_X12_rootOf_6  wg_N x0 v1 x1 σ)
set_option maxRecDepth 20000 in
theorem g_X12_rootOf_6 (l : Launch) (E : wg_E)  (z : Int32 × wg_M) : ∀ (n : Nat) (x0 : Nat) (x2 : Int32) (x3 : Int32) (σ : wg_M) (hx0 : wg_t Sm x0 = 14) (h : f_X12_rootOf_6  n x0 x2 x3 σ = some z), wg_G l E Sm "WornWigsModel" cX12_rootOf 4 (some .int) rm_X12_rootOf (some z.1) z.2 6 [some (.ref x0), none, some (.int x2), some (.int x3)] [] σ := by
  intro n
  induction n with
  | zero => intro x0 x2 x3 σ hx0 h; cases h
  | succ n ih =>
    intro x0 x2 x3 σ hx0 h
    refine wr_aload_n (wg_da dt_X12_rootOf 6 rfl) rfl ?_
    refine wr_iload_n (wg_da dt_X12_rootOf 7 rfl) rfl ?_
    refine wr_callVi [.int x3] [] (wg_da dt_X12_rootOf 8 rfl) ⟨wq_9_49, wq_9_51, wq_p9_11⟩ hx0 ⟨rfl, by decide⟩ wy_X12_afterOf (fun q hq => m_X12_afterOf l E x0 x3 hx0 _ q hq) rfl rfl (Nat.le_of_ble_eq_true rfl) ⟨rfl, rfl, by decide, by decide⟩ h (fun v1 s2 h => ?_)
    refine wr_iconst (-1 : Int32) (wg_da dt_X12_rootOf 9 rfl) (by decide) ?_
    refine wr_icmp_eq 41 (wg_da dt_X12_rootOf 10 rfl) (by decide) h (fun h => ?_) (fun h => ?_)
    · refine wr_iload_n (wg_da dt_X12_rootOf 29 rfl) rfl ?_
      exact wr_iret (wg_da dt_X12_rootOf 30 rfl) h
    · refine wr_aload_n (wg_da dt_X12_rootOf 11 rfl) rfl ?_
      refine wr_iload_n (wg_da dt_X12_rootOf 12 rfl) rfl ?_
      refine wr_callVi [.int x3] [] (wg_da dt_X12_rootOf 13 rfl) ⟨wq_9_49, wq_9_51, wq_p9_11⟩ hx0 ⟨rfl, by decide⟩ wy_X12_afterOf (fun q hq => m_X12_afterOf l E x0 x3 hx0 _ q hq) rfl rfl (Nat.le_of_ble_eq_true rfl) ⟨rfl, rfl, by decide, by decide⟩ h (fun v3 s4 h => ?_)
      refine wr_istore_n (wg_da dt_X12_rootOf 14 rfl) (by decide) ?_
      refine wr_aload_n (wg_da dt_X12_rootOf 15 rfl) rfl ?_
      refine wr_iload_n (wg_da dt_X12_rootOf 16 rfl) rfl ?_
      refine wr_iload_n (wg_da dt_X12_rootOf 17 rfl) rfl ?_
      refine wr_callVi [.int x2, .int v3] [] (wg_da dt_X12_rootOf 18 rfl) ⟨wq_9_21, wq_9_23, wq_p9_7⟩ hx0 ⟨rfl, by decide⟩ wy_X12_has (fun q hq => m_X12_has l E x0 x2 v3 hx0 _ q hq) rfl rfl (Nat.le_of_ble_eq_true rfl) ⟨rfl, rfl, by decide, by decide⟩ h (fun v5 s6 h => ?_)
      refine wr_if_eq 32 (wg_da dt_X12_rootOf 19 rfl) (by decide) h (fun h => ?_) (fun h => ?_)
      · refine wr_iload_n (wg_da dt_X12_rootOf 22 rfl) rfl ?_
        refine wr_iconst (1 : Int32) (wg_da dt_X12_rootOf 23 rfl) (by decide) ?_
        refine wr_iload_n (wg_da dt_X12_rootOf 24 rfl) rfl ?_
        refine wr_ishl (wg_da dt_X12_rootOf 25 rfl) ?_
        refine wr_ior (wg_da dt_X12_rootOf 26 rfl) ?_
        refine wr_let h (fun v7 h => ?_)
        refine wr_istore_n (wg_da dt_X12_rootOf 27 rfl) (by decide) ?_
        refine wr_goto 6 (wg_da dt_X12_rootOf 28 rfl) (by decide) ?_
        exact wr_wk [true, false, true, true] (ih x0 v7 v3 s6 hx0 h)
      · refine wr_iload_n (wg_da dt_X12_rootOf 20 rfl) rfl ?_
        exact wr_iret (wg_da dt_X12_rootOf 21 rfl) h
set_option maxRecDepth 20000 in
theorem g_X12_rootOf_e (l : Launch) (E : wg_E)  (x0 : Nat) (x1 : Int32) (σ : wg_M) (z : Int32 × wg_M) (hx0 : wg_t Sm x0 = 14) (h : f_X12_rootOf  x0 x1 σ = some z) : wg_G l E Sm "WornWigsModel" cX12_rootOf 4 (some .int) rm_X12_rootOf (some z.1) z.2 0 [some (.ref x0), some (.int x1), none, none] [] σ := by
  refine wr_iconst (1 : Int32) (wg_da dt_X12_rootOf 0 rfl) (by decide) ?_
  refine wr_iload_n (wg_da dt_X12_rootOf 1 rfl) rfl ?_
  refine wr_ishl (wg_da dt_X12_rootOf 2 rfl) ?_
  refine wr_let h (fun v1 h => ?_)
  refine wr_istore_n (wg_da dt_X12_rootOf 3 rfl) (by decide) ?_
  refine wr_iload_n (wg_da dt_X12_rootOf 4 rfl) rfl ?_
  refine wr_istore_n (wg_da dt_X12_rootOf 5 rfl) (by decide) ?_
  exact wr_wk [true, false, true, true] (g_X12_rootOf_6 l E  _  wg_N x0 v1 x1 σ hx0 h)
theorem m_X12_rootOf (l : Launch) (E : wg_E) (x0 : Nat) (x1 : Int32) (hx0 : wg_t Sm x0 = 14) (σ : wg_M) (q : Int32 × wg_M) (h : f_X12_rootOf x0 x1 σ = some q) : wg_MG l E Sm yX12_rootOf cX12_rootOf 4 (some .int) rm_X12_rootOf [.ref x0, .int x1] σ (some q.1) q.2 :=
  wg_met [.ref x0, .int x1] (plainFor_of_name (by decide)) (Nat.le_of_ble_eq_true rfl) (g_X12_rootOf_e l E x0 x1 σ q hx0 h)
abbrev rm_X12_commonOf : Room := { frames := 2, cells := 0, slots := 0, locals := 45 }
def tb_X12_commonOf : List (Nat × Instr × Nat) := [(0, .aload_n 0, 1), (1, .iload_n 2, 1), (2, .invokevirtual 456, 3), (5, .istore_n 3, 1), (6, .iconst 0, 1), (7, .istore 4, 2), (9, .iload_n 1, 1), (10, .istore 5, 2), (12, .iload 5, 2), (14, .iconst (-1), 1), (15, .if_icmp .eq 47, 3), (18, .aload_n 0, 1), (19, .iload 4, 2), (21, .iload 5, 2), (23, .invokevirtual 441, 3), (26, .ifCond .ne 36, 3), (29, .aload_n 0, 1), (30, .iload_n 3, 1), (31, .iload 5, 2), (33, .invokevirtual 441, 3), (36, .ifCond .eq 6, 3), (39, .iload 5, 2), (41, .ireturn, 1), (42, .iload 4, 2), (44, .iconst 1, 1), (45, .iload 5, 2), (47, .ishl, 1), (48, .ior, 1), (49, .istore 4, 2), (51, .aload_n 0, 1), (52, .iload 5, 2), (54, .invokevirtual 453, 3), (57, .istore 5, 2), (59, .goto (-47), 3), (62, .iconst (-1), 1), (63, .ireturn, 1)]
theorem dt_X12_commonOf : wg_dc cX12_commonOf tb_X12_commonOf := by unfold wg_dc; decide +kernel
def f_X12_commonOf_12  : Nat → Nat → Int32 → Int32 → Int32 → wg_M → Option (Int32 × wg_M)
  | 0, _, _, _, _, _ => none
  | n + 1, x0, x3, x4, x5, σ => if x5 = (-1 : Int32) then (some ((-1 : Int32), σ)) else (wg_bd (f_X12_has x0 x4 x5 σ) (fun v1 s2 => if v1 = 0 then (wg_bd (f_X12_has x0 x3 x5 s2) (fun v3 s4 => if v3 = 0 then (wg_let (x4 ||| ((1 : Int32) <<< (x5 &&& 31))) (fun v5 => wg_bd (f_X12_afterOf x0 x5 s4) (fun v6 s7 => f_X12_commonOf_12  n x0 x3 v5 v6 s7))) else (some (x5, s4)))) else (some ((-1 : Int32), s2))))
def f_X12_commonOf  (x0 : Nat) (x1 : Int32) (x2 : Int32) (σ : wg_M) : Option (Int32 × wg_M) := wg_bd (f_X12_backFrom x0 x2 σ) (fun v1 s2 => f_X12_commonOf_12  wg_N x0 v1 (0 : Int32) x1 s2)
set_option maxRecDepth 20000 in
theorem g_X12_commonOf_12 (l : Launch) (E : wg_E)  (z : Int32 × wg_M) : ∀ (n : Nat) (x0 : Nat) (x3 : Int32) (x4 : Int32) (x5 : Int32) (σ : wg_M) (hx0 : wg_t Sm x0 = 14) (h : f_X12_commonOf_12  n x0 x3 x4 x5 σ = some z), wg_G l E Sm "WornWigsModel" cX12_commonOf 6 (some .int) rm_X12_commonOf (some z.1) z.2 12 [some (.ref x0), none, none, some (.int x3), some (.int x4), some (.int x5)] [] σ := by
  intro n
  induction n with
  | zero => intro x0 x3 x4 x5 σ hx0 h; cases h
  | succ n ih =>
    intro x0 x3 x4 x5 σ hx0 h
    refine wr_iload (wg_da dt_X12_commonOf 8 rfl) rfl ?_
    refine wr_iconst (-1 : Int32) (wg_da dt_X12_commonOf 9 rfl) (by decide) ?_
    refine wr_icmp_eq 62 (wg_da dt_X12_commonOf 10 rfl) (by decide) h (fun h => ?_) (fun h => ?_)
    · refine wr_iconst (-1 : Int32) (wg_da dt_X12_commonOf 34 rfl) (by decide) ?_
      exact wr_iret (wg_da dt_X12_commonOf 35 rfl) h
    · refine wr_aload_n (wg_da dt_X12_commonOf 11 rfl) rfl ?_
      refine wr_iload (wg_da dt_X12_commonOf 12 rfl) rfl ?_
      refine wr_iload (wg_da dt_X12_commonOf 13 rfl) rfl ?_
      refine wr_callVi [.int x4, .int x5] [] (wg_da dt_X12_commonOf 14 rfl) ⟨wq_9_21, wq_9_23, wq_p9_7⟩ hx0 ⟨rfl, by decide⟩ wy_X12_has (fun q hq => m_X12_has l E x0 x4 x5 hx0 _ q hq) rfl rfl (Nat.le_of_ble_eq_true rfl) ⟨rfl, rfl, by decide, by decide⟩ h (fun v1 s2 h => ?_)
      refine wr_if_ne 62 (wg_da dt_X12_commonOf 15 rfl) (by decide) h (fun h => ?_) (fun h => ?_)
      · refine wr_aload_n (wg_da dt_X12_commonOf 16 rfl) rfl ?_
        refine wr_iload_n (wg_da dt_X12_commonOf 17 rfl) rfl ?_
        refine wr_iload (wg_da dt_X12_commonOf 18 rfl) rfl ?_
        refine wr_callVi [.int x3, .int x5] [] (wg_da dt_X12_commonOf 19 rfl) ⟨wq_9_21, wq_9_23, wq_p9_7⟩ hx0 ⟨rfl, by decide⟩ wy_X12_has (fun q hq => m_X12_has l E x0 x3 x5 hx0 _ q hq) rfl rfl (Nat.le_of_ble_eq_true rfl) ⟨rfl, rfl, by decide, by decide⟩ h (fun v3 s4 h => ?_)
        refine wr_if_eq 42 (wg_da dt_X12_commonOf 20 rfl) (by decide) h (fun h => ?_) (fun h => ?_)
        · refine wr_iload (wg_da dt_X12_commonOf 23 rfl) rfl ?_
          refine wr_iconst (1 : Int32) (wg_da dt_X12_commonOf 24 rfl) (by decide) ?_
          refine wr_iload (wg_da dt_X12_commonOf 25 rfl) rfl ?_
          refine wr_ishl (wg_da dt_X12_commonOf 26 rfl) ?_
          refine wr_ior (wg_da dt_X12_commonOf 27 rfl) ?_
          refine wr_let h (fun v5 h => ?_)
          refine wr_istore (wg_da dt_X12_commonOf 28 rfl) (by decide) ?_
          refine wr_aload_n (wg_da dt_X12_commonOf 29 rfl) rfl ?_
          refine wr_iload (wg_da dt_X12_commonOf 30 rfl) rfl ?_
          refine wr_callVi [.int x5] [] (wg_da dt_X12_commonOf 31 rfl) ⟨wq_9_49, wq_9_51, wq_p9_11⟩ hx0 ⟨rfl, by decide⟩ wy_X12_afterOf (fun q hq => m_X12_afterOf l E x0 x5 hx0 _ q hq) rfl rfl (Nat.le_of_ble_eq_true rfl) ⟨rfl, rfl, by decide, by decide⟩ h (fun v6 s7 h => ?_)
          refine wr_istore (wg_da dt_X12_commonOf 32 rfl) (by decide) ?_
          refine wr_goto 12 (wg_da dt_X12_commonOf 33 rfl) (by decide) ?_
          exact wr_wk [true, false, false, true, true, true] (ih x0 x3 v5 v6 s7 hx0 h)
        · refine wr_iload (wg_da dt_X12_commonOf 21 rfl) rfl ?_
          exact wr_iret (wg_da dt_X12_commonOf 22 rfl) h
      · refine wr_iconst (-1 : Int32) (wg_da dt_X12_commonOf 34 rfl) (by decide) ?_
        exact wr_iret (wg_da dt_X12_commonOf 35 rfl) h
set_option maxRecDepth 20000 in
theorem g_X12_commonOf_e (l : Launch) (E : wg_E)  (x0 : Nat) (x1 : Int32) (x2 : Int32) (σ : wg_M) (z : Int32 × wg_M) (hx0 : wg_t Sm x0 = 14) (h : f_X12_commonOf  x0 x1 x2 σ = some z) : wg_G l E Sm "WornWigsModel" cX12_commonOf 6 (some .int) rm_X12_commonOf (some z.1) z.2 0 [some (.ref x0), some (.int x1), some (.int x2), none, none, none] [] σ := by
  refine wr_aload_n (wg_da dt_X12_commonOf 0 rfl) rfl ?_
  refine wr_iload_n (wg_da dt_X12_commonOf 1 rfl) rfl ?_
  refine wr_callVi [.int x2] [] (wg_da dt_X12_commonOf 2 rfl) ⟨wq_9_57, wq_9_59, wq_p9_13⟩ hx0 ⟨rfl, by decide⟩ wy_X12_backFrom (fun q hq => m_X12_backFrom l E x0 x2 hx0 _ q hq) rfl rfl (Nat.le_of_ble_eq_true rfl) ⟨rfl, rfl, by decide, by decide⟩ h (fun v1 s2 h => ?_)
  refine wr_istore_n (wg_da dt_X12_commonOf 3 rfl) (by decide) ?_
  refine wr_iconst (0 : Int32) (wg_da dt_X12_commonOf 4 rfl) (by decide) ?_
  refine wr_istore (wg_da dt_X12_commonOf 5 rfl) (by decide) ?_
  refine wr_iload_n (wg_da dt_X12_commonOf 6 rfl) rfl ?_
  refine wr_istore (wg_da dt_X12_commonOf 7 rfl) (by decide) ?_
  exact wr_wk [true, false, false, true, true, true] (g_X12_commonOf_12 l E  _  wg_N x0 v1 (0 : Int32) x1 s2 hx0 h)
theorem m_X12_commonOf (l : Launch) (E : wg_E) (x0 : Nat) (x1 : Int32) (x2 : Int32) (hx0 : wg_t Sm x0 = 14) (σ : wg_M) (q : Int32 × wg_M) (h : f_X12_commonOf x0 x1 x2 σ = some q) : wg_MG l E Sm yX12_commonOf cX12_commonOf 6 (some .int) rm_X12_commonOf [.ref x0, .int x1, .int x2] σ (some q.1) q.2 :=
  wg_met [.ref x0, .int x1, .int x2] (plainFor_of_name (by decide)) (Nat.le_of_ble_eq_true rfl) (g_X12_commonOf_e l E x0 x1 x2 σ q hx0 h)

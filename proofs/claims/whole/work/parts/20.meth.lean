abbrev rm_X12_kin : Room := { frames := 3, cells := 0, slots := 0, locals := 70 }
def tb_X12_kin : List (Nat × Instr × Nat) := [(0, .aload_n 0, 1), (1, .iconst 0, 1), (2, .putfield 113, 3), (5, .aload_n 0, 1), (6, .iload_n 1, 1), (7, .invokevirtual 156, 3), (10, .ifCond .eq 16, 3), (13, .iload_n 2, 1), (14, .iconst (-1), 1), (15, .if_icmp .eq 13, 3), (18, .aload_n 0, 1), (19, .iload_n 2, 1), (20, .invokevirtual 156, 3), (23, .ifCond .ne 5, 3), (26, .iconst (-1), 1), (27, .ireturn, 1), (28, .iload_n 2, 1), (29, .iconst (-1), 1), (30, .if_icmp .ne 11, 3), (33, .aload_n 0, 1), (34, .iload_n 1, 1), (35, .invokevirtual 459, 3), (38, .goto 9, 3), (41, .aload_n 0, 1), (42, .iload_n 1, 1), (43, .iload_n 2, 1), (44, .invokevirtual 462, 3), (47, .ireturn, 1)]
theorem dt_X12_kin : wg_dc cX12_kin tb_X12_kin := by unfold wg_dc; decide +kernel
def f_X12_kin_28  (x0 : Nat) (x1 : Int32) (x2 : Int32) (σ : wg_M) : Option (Int32 × wg_M) := if x2 = (-1 : Int32) then (wg_bd (f_X12_rootOf x0 x1 σ) (fun v3 s4 => some (v3, s4))) else (wg_bd (f_X12_commonOf x0 x1 x2 σ) (fun v1 s2 => some (v1, s2)))
def f_X12_kin  (x0 : Nat) (x1 : Int32) (x2 : Int32) (σ : wg_M) : Option (Int32 × wg_M) := wg_st σ x0 0 (0 : Int32) (fun s1 => wg_bd (f_X12_isWig x0 x1 s1) (fun v2 s3 => if v2 = 0 then (some ((-1 : Int32), s3)) else (if x2 = (-1 : Int32) then (f_X12_kin_28  x0 x1 x2 s3) else (wg_bd (f_X12_isWig x0 x2 s3) (fun v4 s5 => if v4 = 0 then (some ((-1 : Int32), s5)) else (f_X12_kin_28  x0 x1 x2 s5))))))
set_option maxRecDepth 20000 in
theorem g_X12_kin_28 (l : Launch) (E : wg_E)  (x0 : Nat) (x1 : Int32) (x2 : Int32) (σ : wg_M) (z : Int32 × wg_M) (hx0 : wg_t Sm x0 = 14) (h : f_X12_kin_28  x0 x1 x2 σ = some z) : wg_G l E Sm "WornWigsModel" cX12_kin 3 (some .int) rm_X12_kin (some z.1) z.2 28 [some (.ref x0), some (.int x1), some (.int x2)] [] σ := by
  refine wr_iload_n (wg_da dt_X12_kin 16 rfl) rfl ?_
  refine wr_iconst (-1 : Int32) (wg_da dt_X12_kin 17 rfl) (by decide) ?_
  refine wr_icmp_ne 41 (wg_da dt_X12_kin 18 rfl) (by decide) h (fun h => ?_) (fun h => ?_)
  · refine wr_aload_n (wg_da dt_X12_kin 19 rfl) rfl ?_
    refine wr_iload_n (wg_da dt_X12_kin 20 rfl) rfl ?_
    refine wr_callVi [.int x1] [] (wg_da dt_X12_kin 21 rfl) ⟨wq_9_45, wq_9_47, wq_p9_10⟩ hx0 ⟨rfl, by decide⟩ wy_X12_rootOf (fun q hq => m_X12_rootOf l E x0 x1 hx0 _ q hq) rfl rfl (Nat.le_of_ble_eq_true rfl) ⟨rfl, rfl, by decide, by decide⟩ h (fun v3 s4 h => ?_)
    refine wr_goto 47 (wg_da dt_X12_kin 22 rfl) (by decide) ?_
    exact wr_iret (wg_da dt_X12_kin 27 rfl) h
  · refine wr_aload_n (wg_da dt_X12_kin 23 rfl) rfl ?_
    refine wr_iload_n (wg_da dt_X12_kin 24 rfl) rfl ?_
    refine wr_iload_n (wg_da dt_X12_kin 25 rfl) rfl ?_
    refine wr_callVi [.int x1, .int x2] [] (wg_da dt_X12_kin 26 rfl) ⟨wq_9_53, wq_9_55, wq_p9_12⟩ hx0 ⟨rfl, by decide⟩ wy_X12_commonOf (fun q hq => m_X12_commonOf l E x0 x1 x2 hx0 _ q hq) rfl rfl (Nat.le_of_ble_eq_true rfl) ⟨rfl, rfl, by decide, by decide⟩ h (fun v1 s2 h => ?_)
    exact wr_iret (wg_da dt_X12_kin 27 rfl) h
set_option maxRecDepth 20000 in
theorem g_X12_kin_e (l : Launch) (E : wg_E)  (x0 : Nat) (x1 : Int32) (x2 : Int32) (σ : wg_M) (z : Int32 × wg_M) (hx0 : wg_t Sm x0 = 14) (h : f_X12_kin  x0 x1 x2 σ = some z) : wg_G l E Sm "WornWigsModel" cX12_kin 3 (some .int) rm_X12_kin (some z.1) z.2 0 [some (.ref x0), some (.int x1), some (.int x2)] [] σ := by
  refine wr_aload_n (wg_da dt_X12_kin 0 rfl) rfl ?_
  refine wr_iconst (0 : Int32) (wg_da dt_X12_kin 1 rfl) (by decide) ?_
  refine wr_putI wfp_X12_113 (wg_da dt_X12_kin 2 rfl) hx0 h (fun s1 h => ?_)
  refine wr_aload_n (wg_da dt_X12_kin 3 rfl) rfl ?_
  refine wr_iload_n (wg_da dt_X12_kin 4 rfl) rfl ?_
  refine wr_callVi [.int x1] [] (wg_da dt_X12_kin 5 rfl) ⟨wq_7_98, wq_7_100, wq_p4_4⟩ hx0 ⟨rfl, by decide⟩ wy_X12_isWig (fun q hq => m_X12_isWig l E x0 x1 hx0 _ q hq) rfl rfl (Nat.le_of_ble_eq_true rfl) ⟨rfl, rfl, by decide, by decide⟩ h (fun v2 s3 h => ?_)
  refine wr_if_eq 26 (wg_da dt_X12_kin 6 rfl) (by decide) h (fun h => ?_) (fun h => ?_)
  · refine wr_iconst (-1 : Int32) (wg_da dt_X12_kin 14 rfl) (by decide) ?_
    exact wr_iret (wg_da dt_X12_kin 15 rfl) h
  · refine wr_iload_n (wg_da dt_X12_kin 7 rfl) rfl ?_
    refine wr_iconst (-1 : Int32) (wg_da dt_X12_kin 8 rfl) (by decide) ?_
    refine wr_icmp_eq 28 (wg_da dt_X12_kin 9 rfl) (by decide) h (fun h => ?_) (fun h => ?_)
    · exact wr_wk [true, true, true] (g_X12_kin_28 l E  x0 x1 x2 s3 _ hx0  h)
    · refine wr_aload_n (wg_da dt_X12_kin 10 rfl) rfl ?_
      refine wr_iload_n (wg_da dt_X12_kin 11 rfl) rfl ?_
      refine wr_callVi [.int x2] [] (wg_da dt_X12_kin 12 rfl) ⟨wq_7_98, wq_7_100, wq_p4_4⟩ hx0 ⟨rfl, by decide⟩ wy_X12_isWig (fun q hq => m_X12_isWig l E x0 x2 hx0 _ q hq) rfl rfl (Nat.le_of_ble_eq_true rfl) ⟨rfl, rfl, by decide, by decide⟩ h (fun v4 s5 h => ?_)
      refine wr_if_ne 28 (wg_da dt_X12_kin 13 rfl) (by decide) h (fun h => ?_) (fun h => ?_)
      · refine wr_iconst (-1 : Int32) (wg_da dt_X12_kin 14 rfl) (by decide) ?_
        exact wr_iret (wg_da dt_X12_kin 15 rfl) h
      · exact wr_wk [true, true, true] (g_X12_kin_28 l E  x0 x1 x2 s5 _ hx0  h)
theorem m_X12_kin (l : Launch) (E : wg_E) (x0 : Nat) (x1 : Int32) (x2 : Int32) (hx0 : wg_t Sm x0 = 14) (σ : wg_M) (q : Int32 × wg_M) (h : f_X12_kin x0 x1 x2 σ = some q) : wg_MG l E Sm yX12_kin cX12_kin 3 (some .int) rm_X12_kin [.ref x0, .int x1, .int x2] σ (some q.1) q.2 :=
  wg_met [.ref x0, .int x1, .int x2] (plainFor_of_name (by decide)) (Nat.le_of_ble_eq_true rfl) (g_X12_kin_e l E x0 x1 x2 σ q hx0 h)
abbrev rm_X12_hairOf : Room := { frames := 1, cells := 0, slots := 0, locals := 22 }
def tb_X12_hairOf : List (Nat × Instr × Nat) := [(0, .iconst 0, 1), (1, .istore_n 2, 1), (2, .iconst 0, 1), (3, .istore_n 3, 1), (4, .iload_n 3, 1), (5, .aload_n 0, 1), (6, .getfield 125, 3), (9, .if_icmp .ge 30, 3), (12, .aload_n 0, 1), (13, .iload_n 1, 1), (14, .iload_n 3, 1), (15, .invokevirtual 441, 3), (18, .ifCond .eq 15, 3), (21, .iload_n 2, 1), (22, .aload_n 0, 1), (23, .getfield 7, 3), (26, .bipush 43, 2), (28, .iload_n 3, 1), (29, .iadd, 1), (30, .iaload, 1), (31, .iadd, 1), (32, .istore_n 2, 1), (33, .iinc 3 1, 3), (36, .goto (-32), 3), (39, .iload_n 2, 1), (40, .ireturn, 1)]
theorem dt_X12_hairOf : wg_dc cX12_hairOf tb_X12_hairOf := by unfold wg_dc; decide +kernel
def f_X12_hairOf_33 (k4 : Nat → Int32 → Int32 → Int32 → wg_M → Option (Int32 × wg_M)) (x0 : Nat) (x1 : Int32) (x2 : Int32) (x3 : Int32) (σ : wg_M) : Option (Int32 × wg_M) := wg_let (x3 + (1 : Int32)) (fun v1 => k4 x0 x1 x2 v1 σ)
def f_X12_hairOf_4  : Nat → Nat → Int32 → Int32 → Int32 → wg_M → Option (Int32 × wg_M)
  | 0, _, _, _, _, _ => none
  | n + 1, x0, x1, x2, x3, σ => if (σ x0 6) ≤ x3 then (some (x2, σ)) else (wg_bd (f_X12_has x0 x1 x3 σ) (fun v1 s2 => if v1 = 0 then (f_X12_hairOf_33 (f_X12_hairOf_4  n) x0 x1 x2 x3 s2) else (wg_ga (wg_n Sm (wg_r Sm x0 1)) (s2 (wg_r Sm x0 1)) ((43 : Int32) + x3) (fun v3 => wg_let (x2 + v3) (fun v4 => f_X12_hairOf_33 (f_X12_hairOf_4  n) x0 x1 v4 x3 s2)))))
def f_X12_hairOf  (x0 : Nat) (x1 : Int32) (σ : wg_M) : Option (Int32 × wg_M) := f_X12_hairOf_4  wg_N x0 x1 (0 : Int32) (0 : Int32) σ
set_option maxRecDepth 20000 in
theorem g_X12_hairOf_33 (l : Launch) (E : wg_E) (k4 : Nat → Int32 → Int32 → Int32 → wg_M → Option (Int32 × wg_M)) (x0 : Nat) (x1 : Int32) (x2 : Int32) (x3 : Int32) (σ : wg_M) (z : Int32 × wg_M) (hx0 : wg_t Sm x0 = 14) (hk4 : ∀ (x0 : Nat) (x1 : Int32) (x2 : Int32) (x3 : Int32) (σ : wg_M), wg_t Sm x0 = 14 → k4 x0 x1 x2 x3 σ = some z → wg_G l E Sm "WornWigsModel" cX12_hairOf 4 (some .int) rm_X12_hairOf (some z.1) z.2 4 [some (.ref x0), some (.int x1), some (.int x2), some (.int x3)] [] σ) (h : f_X12_hairOf_33 k4 x0 x1 x2 x3 σ = some z) : wg_G l E Sm "WornWigsModel" cX12_hairOf 4 (some .int) rm_X12_hairOf (some z.1) z.2 33 [some (.ref x0), some (.int x1), some (.int x2), some (.int x3)] [] σ := by
  refine wr_iinc (c0 := (1 : Int32)) (wg_da dt_X12_hairOf 22 rfl) rfl (by decide) (by decide) h (fun v1 h => ?_)
  refine wr_goto 4 (wg_da dt_X12_hairOf 23 rfl) (by decide) ?_
  exact wr_wk [true, true, true, true] (hk4 x0 x1 x2 v1 σ hx0 h)
set_option maxRecDepth 20000 in
theorem g_X12_hairOf_4 (l : Launch) (E : wg_E)  (z : Int32 × wg_M) : ∀ (n : Nat) (x0 : Nat) (x1 : Int32) (x2 : Int32) (x3 : Int32) (σ : wg_M) (hx0 : wg_t Sm x0 = 14) (h : f_X12_hairOf_4  n x0 x1 x2 x3 σ = some z), wg_G l E Sm "WornWigsModel" cX12_hairOf 4 (some .int) rm_X12_hairOf (some z.1) z.2 4 [some (.ref x0), some (.int x1), some (.int x2), some (.int x3)] [] σ := by
  intro n
  induction n with
  | zero => intro x0 x1 x2 x3 σ hx0 h; cases h
  | succ n ih =>
    intro x0 x1 x2 x3 σ hx0 h
    refine wr_iload_n (wg_da dt_X12_hairOf 4 rfl) rfl ?_
    refine wr_aload_n (wg_da dt_X12_hairOf 5 rfl) rfl ?_
    refine wr_getI wf_X12_125 (wg_da dt_X12_hairOf 6 rfl) hx0 ?_
    refine wr_icmp_ge 39 (wg_da dt_X12_hairOf 7 rfl) (by decide) h (fun h => ?_) (fun h => ?_)
    · refine wr_iload_n (wg_da dt_X12_hairOf 24 rfl) rfl ?_
      exact wr_iret (wg_da dt_X12_hairOf 25 rfl) h
    · refine wr_aload_n (wg_da dt_X12_hairOf 8 rfl) rfl ?_
      refine wr_iload_n (wg_da dt_X12_hairOf 9 rfl) rfl ?_
      refine wr_iload_n (wg_da dt_X12_hairOf 10 rfl) rfl ?_
      refine wr_callVi [.int x1, .int x3] [] (wg_da dt_X12_hairOf 11 rfl) ⟨wq_9_21, wq_9_23, wq_p9_7⟩ hx0 ⟨rfl, by decide⟩ wy_X12_has (fun q hq => m_X12_has l E x0 x1 x3 hx0 _ q hq) rfl rfl (Nat.le_of_ble_eq_true rfl) ⟨rfl, rfl, by decide, by decide⟩ h (fun v1 s2 h => ?_)
      refine wr_if_eq 33 (wg_da dt_X12_hairOf 12 rfl) (by decide) h (fun h => ?_) (fun h => ?_)
      · exact wr_wk [true, true, true, true] (g_X12_hairOf_33 l E (f_X12_hairOf_4  n) x0 x1 x2 x3 s2 _ hx0 (fun x0 x1 x2 x3 σ hx0 h => ih x0 x1 x2 x3 σ hx0 h) h)
      · refine wr_iload_n (wg_da dt_X12_hairOf 13 rfl) rfl ?_
        refine wr_aload_n (wg_da dt_X12_hairOf 14 rfl) rfl ?_
        refine wr_getR wf_X12_7 (wg_da dt_X12_hairOf 15 rfl) hx0 ?_
        refine wr_bipush (43 : Int32) (wg_da dt_X12_hairOf 16 rfl) (by decide) ?_
        refine wr_iload_n (wg_da dt_X12_hairOf 17 rfl) rfl ?_
        refine wr_iadd (wg_da dt_X12_hairOf 18 rfl) ?_
        refine wr_iald (wg_da dt_X12_hairOf 19 rfl) (wg_ty Sm_ok 12 1 0 hx0 rfl (by decide)).2 h (fun v3 h => ?_)
        refine wr_iadd (wg_da dt_X12_hairOf 20 rfl) ?_
        refine wr_let h (fun v4 h => ?_)
        refine wr_istore_n (wg_da dt_X12_hairOf 21 rfl) (by decide) ?_
        exact wr_wk [true, true, true, true] (g_X12_hairOf_33 l E (f_X12_hairOf_4  n) x0 x1 v4 x3 s2 _ hx0 (fun x0 x1 x2 x3 σ hx0 h => ih x0 x1 x2 x3 σ hx0 h) h)
set_option maxRecDepth 20000 in
theorem g_X12_hairOf_e (l : Launch) (E : wg_E)  (x0 : Nat) (x1 : Int32) (σ : wg_M) (z : Int32 × wg_M) (hx0 : wg_t Sm x0 = 14) (h : f_X12_hairOf  x0 x1 σ = some z) : wg_G l E Sm "WornWigsModel" cX12_hairOf 4 (some .int) rm_X12_hairOf (some z.1) z.2 0 [some (.ref x0), some (.int x1), none, none] [] σ := by
  refine wr_iconst (0 : Int32) (wg_da dt_X12_hairOf 0 rfl) (by decide) ?_
  refine wr_istore_n (wg_da dt_X12_hairOf 1 rfl) (by decide) ?_
  refine wr_iconst (0 : Int32) (wg_da dt_X12_hairOf 2 rfl) (by decide) ?_
  refine wr_istore_n (wg_da dt_X12_hairOf 3 rfl) (by decide) ?_
  exact wr_wk [true, true, true, true] (g_X12_hairOf_4 l E  _  wg_N x0 x1 (0 : Int32) (0 : Int32) σ hx0 h)
theorem m_X12_hairOf (l : Launch) (E : wg_E) (x0 : Nat) (x1 : Int32) (hx0 : wg_t Sm x0 = 14) (σ : wg_M) (q : Int32 × wg_M) (h : f_X12_hairOf x0 x1 σ = some q) : wg_MG l E Sm yX12_hairOf cX12_hairOf 4 (some .int) rm_X12_hairOf [.ref x0, .int x1] σ (some q.1) q.2 :=
  wg_met [.ref x0, .int x1] (plainFor_of_name (by decide)) (Nat.le_of_ble_eq_true rfl) (g_X12_hairOf_e l E x0 x1 σ q hx0 h)
abbrev rm_X12_savedBy : Room := { frames := 1, cells := 0, slots := 0, locals := 22 }
def tb_X12_savedBy : List (Nat × Instr × Nat) := [(0, .iconst 0, 1), (1, .istore_n 2, 1), (2, .iconst 0, 1), (3, .istore_n 3, 1), (4, .iload_n 3, 1), (5, .aload_n 0, 1), (6, .getfield 125, 3), (9, .if_icmp .ge 46, 3), (12, .aload_n 0, 1), (13, .iload_n 1, 1), (14, .iload_n 3, 1), (15, .invokevirtual 441, 3), (18, .ifCond .eq 31, 3), (21, .iload_n 2, 1), (22, .aload_n 0, 1), (23, .getfield 7, 3), (26, .bipush 67, 2), (28, .iload_n 3, 1), (29, .iadd, 1), (30, .iaload, 1), (31, .iadd, 1), (32, .aload_n 0, 1), (33, .getfield 19, 3), (36, .iload_n 3, 1), (37, .iaload, 1), (38, .iconst 1, 1), (39, .if_icmp .ne 7, 3), (42, .iconst 3, 1), (43, .goto 4, 3), (46, .iconst 0, 1), (47, .iadd, 1), (48, .istore_n 2, 1), (49, .iinc 3 1, 3), (52, .goto (-48), 3), (55, .iload_n 2, 1), (56, .ireturn, 1)]
theorem dt_X12_savedBy : wg_dc cX12_savedBy tb_X12_savedBy := by unfold wg_dc; decide +kernel
def f_X12_savedBy_49 (k4 : Nat → Int32 → Int32 → Int32 → wg_M → Option (Int32 × wg_M)) (x0 : Nat) (x1 : Int32) (x2 : Int32) (x3 : Int32) (σ : wg_M) : Option (Int32 × wg_M) := wg_let (x3 + (1 : Int32)) (fun v1 => k4 x0 x1 x2 v1 σ)
def f_X12_savedBy_47 (k4 : Nat → Int32 → Int32 → Int32 → wg_M → Option (Int32 × wg_M)) (x0 : Nat) (x1 : Int32) (x3 : Int32) (t0 : Int32) (t1 : Int32) (σ : wg_M) : Option (Int32 × wg_M) := wg_let (t1 + t0) (fun v1 => f_X12_savedBy_49 k4 x0 x1 v1 x3 σ)
def f_X12_savedBy_4  : Nat → Nat → Int32 → Int32 → Int32 → wg_M → Option (Int32 × wg_M)
  | 0, _, _, _, _, _ => none
  | n + 1, x0, x1, x2, x3, σ => if (σ x0 6) ≤ x3 then (some (x2, σ)) else (wg_bd (f_X12_has x0 x1 x3 σ) (fun v1 s2 => if v1 = 0 then (f_X12_savedBy_49 (f_X12_savedBy_4  n) x0 x1 x2 x3 s2) else (wg_ga (wg_n Sm (wg_r Sm x0 1)) (s2 (wg_r Sm x0 1)) ((67 : Int32) + x3) (fun v3 => wg_ga (wg_n Sm (wg_r Sm x0 9)) (s2 (wg_r Sm x0 9)) x3 (fun v4 => if v4 = (1 : Int32) then (f_X12_savedBy_47 (f_X12_savedBy_4  n) x0 x1 x3 (3 : Int32) (x2 + v3) s2) else (f_X12_savedBy_47 (f_X12_savedBy_4  n) x0 x1 x3 (0 : Int32) (x2 + v3) s2))))))
def f_X12_savedBy  (x0 : Nat) (x1 : Int32) (σ : wg_M) : Option (Int32 × wg_M) := f_X12_savedBy_4  wg_N x0 x1 (0 : Int32) (0 : Int32) σ
set_option maxRecDepth 20000 in
theorem g_X12_savedBy_49 (l : Launch) (E : wg_E) (k4 : Nat → Int32 → Int32 → Int32 → wg_M → Option (Int32 × wg_M)) (x0 : Nat) (x1 : Int32) (x2 : Int32) (x3 : Int32) (σ : wg_M) (z : Int32 × wg_M) (hx0 : wg_t Sm x0 = 14) (hk4 : ∀ (x0 : Nat) (x1 : Int32) (x2 : Int32) (x3 : Int32) (σ : wg_M), wg_t Sm x0 = 14 → k4 x0 x1 x2 x3 σ = some z → wg_G l E Sm "WornWigsModel" cX12_savedBy 4 (some .int) rm_X12_savedBy (some z.1) z.2 4 [some (.ref x0), some (.int x1), some (.int x2), some (.int x3)] [] σ) (h : f_X12_savedBy_49 k4 x0 x1 x2 x3 σ = some z) : wg_G l E Sm "WornWigsModel" cX12_savedBy 4 (some .int) rm_X12_savedBy (some z.1) z.2 49 [some (.ref x0), some (.int x1), some (.int x2), some (.int x3)] [] σ := by
  refine wr_iinc (c0 := (1 : Int32)) (wg_da dt_X12_savedBy 32 rfl) rfl (by decide) (by decide) h (fun v1 h => ?_)
  refine wr_goto 4 (wg_da dt_X12_savedBy 33 rfl) (by decide) ?_
  exact wr_wk [true, true, true, true] (hk4 x0 x1 x2 v1 σ hx0 h)
set_option maxRecDepth 20000 in
theorem g_X12_savedBy_47 (l : Launch) (E : wg_E) (k4 : Nat → Int32 → Int32 → Int32 → wg_M → Option (Int32 × wg_M)) (x0 : Nat) (x1 : Int32) (x3 : Int32) (t0 : Int32) (t1 : Int32) (σ : wg_M) (z : Int32 × wg_M) (hx0 : wg_t Sm x0 = 14) (hk4 : ∀ (x0 : Nat) (x1 : Int32) (x2 : Int32) (x3 : Int32) (σ : wg_M), wg_t Sm x0 = 14 → k4 x0 x1 x2 x3 σ = some z → wg_G l E Sm "WornWigsModel" cX12_savedBy 4 (some .int) rm_X12_savedBy (some z.1) z.2 4 [some (.ref x0), some (.int x1), some (.int x2), some (.int x3)] [] σ) (h : f_X12_savedBy_47 k4 x0 x1 x3 t0 t1 σ = some z) : wg_G l E Sm "WornWigsModel" cX12_savedBy 4 (some .int) rm_X12_savedBy (some z.1) z.2 47 [some (.ref x0), some (.int x1), none, some (.int x3)] [.int t0, .int t1] σ := by
  refine wr_iadd (wg_da dt_X12_savedBy 30 rfl) ?_
  refine wr_let h (fun v1 h => ?_)
  refine wr_istore_n (wg_da dt_X12_savedBy 31 rfl) (by decide) ?_
  exact wr_wk [true, true, true, true] (g_X12_savedBy_49 l E k4 x0 x1 v1 x3 σ _ hx0 hk4 h)
set_option maxRecDepth 20000 in
theorem g_X12_savedBy_4 (l : Launch) (E : wg_E)  (z : Int32 × wg_M) : ∀ (n : Nat) (x0 : Nat) (x1 : Int32) (x2 : Int32) (x3 : Int32) (σ : wg_M) (hx0 : wg_t Sm x0 = 14) (h : f_X12_savedBy_4  n x0 x1 x2 x3 σ = some z), wg_G l E Sm "WornWigsModel" cX12_savedBy 4 (some .int) rm_X12_savedBy (some z.1) z.2 4 [some (.ref x0), some (.int x1), some (.int x2), some (.int x3)] [] σ := by
  intro n
  induction n with
  | zero => intro x0 x1 x2 x3 σ hx0 h; cases h
  | succ n ih =>
    intro x0 x1 x2 x3 σ hx0 h
    refine wr_iload_n (wg_da dt_X12_savedBy 4 rfl) rfl ?_
    refine wr_aload_n (wg_da dt_X12_savedBy 5 rfl) rfl ?_
    refine wr_getI wf_X12_125 (wg_da dt_X12_savedBy 6 rfl) hx0 ?_
    refine wr_icmp_ge 55 (wg_da dt_X12_savedBy 7 rfl) (by decide) h (fun h => ?_) (fun h => ?_)
    · refine wr_iload_n (wg_da dt_X12_savedBy 34 rfl) rfl ?_
      exact wr_iret (wg_da dt_X12_savedBy 35 rfl) h
    · refine wr_aload_n (wg_da dt_X12_savedBy 8 rfl) rfl ?_
      refine wr_iload_n (wg_da dt_X12_savedBy 9 rfl) rfl ?_
      refine wr_iload_n (wg_da dt_X12_savedBy 10 rfl) rfl ?_
      refine wr_callVi [.int x1, .int x3] [] (wg_da dt_X12_savedBy 11 rfl) ⟨wq_9_21, wq_9_23, wq_p9_7⟩ hx0 ⟨rfl, by decide⟩ wy_X12_has (fun q hq => m_X12_has l E x0 x1 x3 hx0 _ q hq) rfl rfl (Nat.le_of_ble_eq_true rfl) ⟨rfl, rfl, by decide, by decide⟩ h (fun v1 s2 h => ?_)
      refine wr_if_eq 49 (wg_da dt_X12_savedBy 12 rfl) (by decide) h (fun h => ?_) (fun h => ?_)
      · exact wr_wk [true, true, true, true] (g_X12_savedBy_49 l E (f_X12_savedBy_4  n) x0 x1 x2 x3 s2 _ hx0 (fun x0 x1 x2 x3 σ hx0 h => ih x0 x1 x2 x3 σ hx0 h) h)
      · refine wr_iload_n (wg_da dt_X12_savedBy 13 rfl) rfl ?_
        refine wr_aload_n (wg_da dt_X12_savedBy 14 rfl) rfl ?_
        refine wr_getR wf_X12_7 (wg_da dt_X12_savedBy 15 rfl) hx0 ?_
        refine wr_bipush (67 : Int32) (wg_da dt_X12_savedBy 16 rfl) (by decide) ?_
        refine wr_iload_n (wg_da dt_X12_savedBy 17 rfl) rfl ?_
        refine wr_iadd (wg_da dt_X12_savedBy 18 rfl) ?_
        refine wr_iald (wg_da dt_X12_savedBy 19 rfl) (wg_ty Sm_ok 12 1 0 hx0 rfl (by decide)).2 h (fun v3 h => ?_)
        refine wr_iadd (wg_da dt_X12_savedBy 20 rfl) ?_
        refine wr_aload_n (wg_da dt_X12_savedBy 21 rfl) rfl ?_
        refine wr_getR wf_X12_19 (wg_da dt_X12_savedBy 22 rfl) hx0 ?_
        refine wr_iload_n (wg_da dt_X12_savedBy 23 rfl) rfl ?_
        refine wr_iald (wg_da dt_X12_savedBy 24 rfl) (wg_ty Sm_ok 12 9 0 hx0 rfl (by decide)).2 h (fun v4 h => ?_)
        refine wr_iconst (1 : Int32) (wg_da dt_X12_savedBy 25 rfl) (by decide) ?_
        refine wr_icmp_ne 46 (wg_da dt_X12_savedBy 26 rfl) (by decide) h (fun h => ?_) (fun h => ?_)
        · refine wr_iconst (3 : Int32) (wg_da dt_X12_savedBy 27 rfl) (by decide) ?_
          refine wr_goto 47 (wg_da dt_X12_savedBy 28 rfl) (by decide) ?_
          exact wr_wk [true, true, false, true] (g_X12_savedBy_47 l E (f_X12_savedBy_4  n) x0 x1 x3 (3 : Int32) (x2 + v3) s2 _ hx0 (fun x0 x1 x2 x3 σ hx0 h => ih x0 x1 x2 x3 σ hx0 h) h)
        · refine wr_iconst (0 : Int32) (wg_da dt_X12_savedBy 29 rfl) (by decide) ?_
          exact wr_wk [true, true, false, true] (g_X12_savedBy_47 l E (f_X12_savedBy_4  n) x0 x1 x3 (0 : Int32) (x2 + v3) s2 _ hx0 (fun x0 x1 x2 x3 σ hx0 h => ih x0 x1 x2 x3 σ hx0 h) h)
set_option maxRecDepth 20000 in
theorem g_X12_savedBy_e (l : Launch) (E : wg_E)  (x0 : Nat) (x1 : Int32) (σ : wg_M) (z : Int32 × wg_M) (hx0 : wg_t Sm x0 = 14) (h : f_X12_savedBy  x0 x1 σ = some z) : wg_G l E Sm "WornWigsModel" cX12_savedBy 4 (some .int) rm_X12_savedBy (some z.1) z.2 0 [some (.ref x0), some (.int x1), none, none] [] σ := by
  refine wr_iconst (0 : Int32) (wg_da dt_X12_savedBy 0 rfl) (by decide) ?_
  refine wr_istore_n (wg_da dt_X12_savedBy 1 rfl) (by decide) ?_
  refine wr_iconst (0 : Int32) (wg_da dt_X12_savedBy 2 rfl) (by decide) ?_
  refine wr_istore_n (wg_da dt_X12_savedBy 3 rfl) (by decide) ?_
  exact wr_wk [true, true, true, true] (g_X12_savedBy_4 l E  _  wg_N x0 x1 (0 : Int32) (0 : Int32) σ hx0 h)
theorem m_X12_savedBy (l : Launch) (E : wg_E) (x0 : Nat) (x1 : Int32) (hx0 : wg_t Sm x0 = 14) (σ : wg_M) (q : Int32 × wg_M) (h : f_X12_savedBy x0 x1 σ = some q) : wg_MG l E Sm yX12_savedBy cX12_savedBy 4 (some .int) rm_X12_savedBy [.ref x0, .int x1] σ (some q.1) q.2 :=
  wg_met [.ref x0, .int x1] (plainFor_of_name (by decide)) (Nat.le_of_ble_eq_true rfl) (g_X12_savedBy_e l E x0 x1 σ q hx0 h)
abbrev rm_X12_saves : Room := { frames := 2, cells := 0, slots := 0, locals := 45 }
def tb_X12_saves : List (Nat × Instr × Nat) := [(0, .aload_n 0, 1), (1, .iconst 0, 1), (2, .putfield 113, 3), (5, .aload_n 0, 1), (6, .iload_n 1, 1), (7, .iconst 1, 1), (8, .sipush 400, 3), (11, .invokevirtual 153, 3), (14, .ifCond .eq 13, 3), (17, .aload_n 0, 1), (18, .iload_n 2, 1), (19, .iconst 0, 1), (20, .iconst 1, 1), (21, .invokevirtual 153, 3), (24, .ifCond .ne 5, 3), (27, .iconst (-1), 1), (28, .ireturn, 1), (29, .iconst 0, 1), (30, .istore_n 3, 1), (31, .iconst 1, 1), (32, .istore 4, 2), (34, .iload 4, 2), (36, .iconst 1, 1), (37, .aload_n 0, 1), (38, .getfield 125, 3), (41, .ishl, 1), (42, .if_icmp .ge 36, 3), (45, .aload_n 0, 1), (46, .iload 4, 2), (48, .invokevirtual 465, 3), (51, .iload_n 1, 1), (52, .if_icmp .gt 20, 3), (55, .aload_n 0, 1), (56, .iload 4, 2), (58, .invokevirtual 468, 3), (61, .aload_n 0, 1), (62, .iload_n 3, 1), (63, .invokevirtual 468, 3), (66, .if_icmp .le 6, 3), (69, .iload 4, 2), (71, .istore_n 3, 1), (72, .iinc 4 1, 3), (75, .goto (-41), 3), (78, .iload_n 2, 1), (79, .ifCond .ne 11, 3), (82, .aload_n 0, 1), (83, .iload_n 3, 1), (84, .invokevirtual 468, 3), (87, .goto 4, 3), (90, .iload_n 3, 1), (91, .ireturn, 1)]
theorem dt_X12_saves : wg_dc cX12_saves tb_X12_saves := by unfold wg_dc; decide +kernel
def f_X12_saves_72 (k34 : Nat → Int32 → Int32 → Int32 → Int32 → wg_M → Option (Int32 × wg_M)) (x0 : Nat) (x1 : Int32) (x2 : Int32) (x3 : Int32) (x4 : Int32) (σ : wg_M) : Option (Int32 × wg_M) := wg_let (x4 + (1 : Int32)) (fun v1 => k34 x0 x1 x2 x3 v1 σ)
def f_X12_saves_34  : Nat → Nat → Int32 → Int32 → Int32 → Int32 → wg_M → Option (Int32 × wg_M)
  | 0, _, _, _, _, _, _ => none
  | n + 1, x0, x1, x2, x3, x4, σ => if ((1 : Int32) <<< ((σ x0 6) &&& 31)) ≤ x4 then (if x2 = 0 then (wg_bd (f_X12_savedBy x0 x3 σ) (fun v1 s2 => some (v1, s2))) else (some (x3, σ))) else (wg_bd (f_X12_hairOf x0 x4 σ) (fun v3 s4 => if x1 < v3 then (f_X12_saves_72 (f_X12_saves_34  n) x0 x1 x2 x3 x4 s4) else (wg_bd (f_X12_savedBy x0 x4 s4) (fun v5 s6 => wg_bd (f_X12_savedBy x0 x3 s6) (fun v7 s8 => if v5 ≤ v7 then (f_X12_saves_72 (f_X12_saves_34  n) x0 x1 x2 x3 x4 s8) else (f_X12_saves_72 (f_X12_saves_34  n) x0 x1 x2 x4 x4 s8))))))
def f_X12_saves  (x0 : Nat) (x1 : Int32) (x2 : Int32) (σ : wg_M) : Option (Int32 × wg_M) := wg_st σ x0 0 (0 : Int32) (fun s1 => wg_bd (f_X12_isIn x0 x1 (1 : Int32) (400 : Int32) s1) (fun v2 s3 => if v2 = 0 then (some ((-1 : Int32), s3)) else (wg_bd (f_X12_isIn x0 x2 (0 : Int32) (1 : Int32) s3) (fun v4 s5 => if v4 = 0 then (some ((-1 : Int32), s5)) else (f_X12_saves_34  wg_N x0 x1 x2 (0 : Int32) (1 : Int32) s5)))))
set_option maxRecDepth 20000 in
theorem g_X12_saves_72 (l : Launch) (E : wg_E) (k34 : Nat → Int32 → Int32 → Int32 → Int32 → wg_M → Option (Int32 × wg_M)) (x0 : Nat) (x1 : Int32) (x2 : Int32) (x3 : Int32) (x4 : Int32) (σ : wg_M) (z : Int32 × wg_M) (hx0 : wg_t Sm x0 = 14) (hk34 : ∀ (x0 : Nat) (x1 : Int32) (x2 : Int32) (x3 : Int32) (x4 : Int32) (σ : wg_M), wg_t Sm x0 = 14 → k34 x0 x1 x2 x3 x4 σ = some z → wg_G l E Sm "WornWigsModel" cX12_saves 5 (some .int) rm_X12_saves (some z.1) z.2 34 [some (.ref x0), some (.int x1), some (.int x2), some (.int x3), some (.int x4)] [] σ) (h : f_X12_saves_72 k34 x0 x1 x2 x3 x4 σ = some z) : wg_G l E Sm "WornWigsModel" cX12_saves 5 (some .int) rm_X12_saves (some z.1) z.2 72 [some (.ref x0), some (.int x1), some (.int x2), some (.int x3), some (.int x4)] [] σ := by
  refine wr_iinc (c0 := (1 : Int32)) (wg_da dt_X12_saves 41 rfl) rfl (by decide) (by decide) h (fun v1 h => ?_)
  refine wr_goto 34 (wg_da dt_X12_saves 42 rfl) (by decide) ?_
  exact wr_wk [true, true, true, true, true] (hk34 x0 x1 x2 x3 v1 σ hx0 h)
set_option maxRecDepth 20000 in
theorem g_X12_saves_34 (l : Launch) (E : wg_E)  (z : Int32 × wg_M) : ∀ (n : Nat) (x0 : Nat) (x1 : Int32) (x2 : Int32) (x3 : Int32) (x4 : Int32) (σ : wg_M) (hx0 : wg_t Sm x0 = 14) (h : f_X12_saves_34  n x0 x1 x2 x3 x4 σ = some z), wg_G l E Sm "WornWigsModel" cX12_saves 5 (some .int) rm_X12_saves (some z.1) z.2 34 [some (.ref x0), some (.int x1), some (.int x2), some (.int x3), some (.int x4)] [] σ := by
  intro n
  induction n with
  | zero => intro x0 x1 x2 x3 x4 σ hx0 h; cases h
  | succ n ih =>
    intro x0 x1 x2 x3 x4 σ hx0 h
    refine wr_iload (wg_da dt_X12_saves 21 rfl) rfl ?_
    refine wr_iconst (1 : Int32) (wg_da dt_X12_saves 22 rfl) (by decide) ?_
    refine wr_aload_n (wg_da dt_X12_saves 23 rfl) rfl ?_
    refine wr_getI wf_X12_125 (wg_da dt_X12_saves 24 rfl) hx0 ?_
    refine wr_ishl (wg_da dt_X12_saves 25 rfl) ?_
    refine wr_icmp_ge 78 (wg_da dt_X12_saves 26 rfl) (by decide) h (fun h => ?_) (fun h => ?_)
    · refine wr_iload_n (wg_da dt_X12_saves 43 rfl) rfl ?_
      refine wr_if_ne 90 (wg_da dt_X12_saves 44 rfl) (by decide) h (fun h => ?_) (fun h => ?_)
      · refine wr_aload_n (wg_da dt_X12_saves 45 rfl) rfl ?_
        refine wr_iload_n (wg_da dt_X12_saves 46 rfl) rfl ?_
        refine wr_callVi [.int x3] [] (wg_da dt_X12_saves 47 rfl) ⟨wq_9_69, wq_9_71, wq_p9_15⟩ hx0 ⟨rfl, by decide⟩ wy_X12_savedBy (fun q hq => m_X12_savedBy l E x0 x3 hx0 _ q hq) rfl rfl (Nat.le_of_ble_eq_true rfl) ⟨rfl, rfl, by decide, by decide⟩ h (fun v1 s2 h => ?_)
        refine wr_goto 91 (wg_da dt_X12_saves 48 rfl) (by decide) ?_
        exact wr_iret (wg_da dt_X12_saves 50 rfl) h
      · refine wr_iload_n (wg_da dt_X12_saves 49 rfl) rfl ?_
        exact wr_iret (wg_da dt_X12_saves 50 rfl) h
    · refine wr_aload_n (wg_da dt_X12_saves 27 rfl) rfl ?_
      refine wr_iload (wg_da dt_X12_saves 28 rfl) rfl ?_
      refine wr_callVi [.int x4] [] (wg_da dt_X12_saves 29 rfl) ⟨wq_9_65, wq_9_67, wq_p9_14⟩ hx0 ⟨rfl, by decide⟩ wy_X12_hairOf (fun q hq => m_X12_hairOf l E x0 x4 hx0 _ q hq) rfl rfl (Nat.le_of_ble_eq_true rfl) ⟨rfl, rfl, by decide, by decide⟩ h (fun v3 s4 h => ?_)
      refine wr_iload_n (wg_da dt_X12_saves 30 rfl) rfl ?_
      refine wr_icmp_gt 72 (wg_da dt_X12_saves 31 rfl) (by decide) h (fun h => ?_) (fun h => ?_)
      · exact wr_wk [true, true, true, true, true] (g_X12_saves_72 l E (f_X12_saves_34  n) x0 x1 x2 x3 x4 s4 _ hx0 (fun x0 x1 x2 x3 x4 σ hx0 h => ih x0 x1 x2 x3 x4 σ hx0 h) h)
      · refine wr_aload_n (wg_da dt_X12_saves 32 rfl) rfl ?_
        refine wr_iload (wg_da dt_X12_saves 33 rfl) rfl ?_
        refine wr_callVi [.int x4] [] (wg_da dt_X12_saves 34 rfl) ⟨wq_9_69, wq_9_71, wq_p9_15⟩ hx0 ⟨rfl, by decide⟩ wy_X12_savedBy (fun q hq => m_X12_savedBy l E x0 x4 hx0 _ q hq) rfl rfl (Nat.le_of_ble_eq_true rfl) ⟨rfl, rfl, by decide, by decide⟩ h (fun v5 s6 h => ?_)
        refine wr_aload_n (wg_da dt_X12_saves 35 rfl) rfl ?_
        refine wr_iload_n (wg_da dt_X12_saves 36 rfl) rfl ?_
        refine wr_callVi [.int x3] [.int v5] (wg_da dt_X12_saves 37 rfl) ⟨wq_9_69, wq_9_71, wq_p9_15⟩ hx0 ⟨rfl, by decide⟩ wy_X12_savedBy (fun q hq => m_X12_savedBy l E x0 x3 hx0 _ q hq) rfl rfl (Nat.le_of_ble_eq_true rfl) ⟨rfl, rfl, by decide, by decide⟩ h (fun v7 s8 h => ?_)
        refine wr_icmp_le 72 (wg_da dt_X12_saves 38 rfl) (by decide) h (fun h => ?_) (fun h => ?_)
        · exact wr_wk [true, true, true, true, true] (g_X12_saves_72 l E (f_X12_saves_34  n) x0 x1 x2 x3 x4 s8 _ hx0 (fun x0 x1 x2 x3 x4 σ hx0 h => ih x0 x1 x2 x3 x4 σ hx0 h) h)
        · refine wr_iload (wg_da dt_X12_saves 39 rfl) rfl ?_
          refine wr_istore_n (wg_da dt_X12_saves 40 rfl) (by decide) ?_
          exact wr_wk [true, true, true, true, true] (g_X12_saves_72 l E (f_X12_saves_34  n) x0 x1 x2 x4 x4 s8 _ hx0 (fun x0 x1 x2 x3 x4 σ hx0 h => ih x0 x1 x2 x3 x4 σ hx0 h) h)
set_option maxRecDepth 20000 in
theorem g_X12_saves_e (l : Launch) (E : wg_E)  (x0 : Nat) (x1 : Int32) (x2 : Int32) (σ : wg_M) (z : Int32 × wg_M) (hx0 : wg_t Sm x0 = 14) (h : f_X12_saves  x0 x1 x2 σ = some z) : wg_G l E Sm "WornWigsModel" cX12_saves 5 (some .int) rm_X12_saves (some z.1) z.2 0 [some (.ref x0), some (.int x1), some (.int x2), none, none] [] σ := by
  refine wr_aload_n (wg_da dt_X12_saves 0 rfl) rfl ?_
  refine wr_iconst (0 : Int32) (wg_da dt_X12_saves 1 rfl) (by decide) ?_
  refine wr_putI wfp_X12_113 (wg_da dt_X12_saves 2 rfl) hx0 h (fun s1 h => ?_)
  refine wr_aload_n (wg_da dt_X12_saves 3 rfl) rfl ?_
  refine wr_iload_n (wg_da dt_X12_saves 4 rfl) rfl ?_
  refine wr_iconst (1 : Int32) (wg_da dt_X12_saves 5 rfl) (by decide) ?_
  refine wr_sipush (400 : Int32) (wg_da dt_X12_saves 6 rfl) (by decide) ?_
  refine wr_callVi [.int x1, .int (1 : Int32), .int (400 : Int32)] [] (wg_da dt_X12_saves 7 rfl) ⟨wq_7_82, wq_7_84, wq_p4_3⟩ hx0 ⟨rfl, by decide⟩ wy_X12_isIn (fun q hq => m_X12_isIn l E x0 x1 (1 : Int32) (400 : Int32) hx0 _ q hq) rfl rfl (Nat.le_of_ble_eq_true rfl) ⟨rfl, rfl, by decide, by decide⟩ h (fun v2 s3 h => ?_)
  refine wr_if_eq 27 (wg_da dt_X12_saves 8 rfl) (by decide) h (fun h => ?_) (fun h => ?_)
  · refine wr_iconst (-1 : Int32) (wg_da dt_X12_saves 15 rfl) (by decide) ?_
    exact wr_iret (wg_da dt_X12_saves 16 rfl) h
  · refine wr_aload_n (wg_da dt_X12_saves 9 rfl) rfl ?_
    refine wr_iload_n (wg_da dt_X12_saves 10 rfl) rfl ?_
    refine wr_iconst (0 : Int32) (wg_da dt_X12_saves 11 rfl) (by decide) ?_
    refine wr_iconst (1 : Int32) (wg_da dt_X12_saves 12 rfl) (by decide) ?_
    refine wr_callVi [.int x2, .int (0 : Int32), .int (1 : Int32)] [] (wg_da dt_X12_saves 13 rfl) ⟨wq_7_82, wq_7_84, wq_p4_3⟩ hx0 ⟨rfl, by decide⟩ wy_X12_isIn (fun q hq => m_X12_isIn l E x0 x2 (0 : Int32) (1 : Int32) hx0 _ q hq) rfl rfl (Nat.le_of_ble_eq_true rfl) ⟨rfl, rfl, by decide, by decide⟩ h (fun v4 s5 h => ?_)
    refine wr_if_ne 29 (wg_da dt_X12_saves 14 rfl) (by decide) h (fun h => ?_) (fun h => ?_)
    · refine wr_iconst (-1 : Int32) (wg_da dt_X12_saves 15 rfl) (by decide) ?_
      exact wr_iret (wg_da dt_X12_saves 16 rfl) h
    · refine wr_iconst (0 : Int32) (wg_da dt_X12_saves 17 rfl) (by decide) ?_
      refine wr_istore_n (wg_da dt_X12_saves 18 rfl) (by decide) ?_
      refine wr_iconst (1 : Int32) (wg_da dt_X12_saves 19 rfl) (by decide) ?_
      refine wr_istore (wg_da dt_X12_saves 20 rfl) (by decide) ?_
      exact wr_wk [true, true, true, true, true] (g_X12_saves_34 l E  _  wg_N x0 x1 x2 (0 : Int32) (1 : Int32) s5 hx0 h)
theorem m_X12_saves (l : Launch) (E : wg_E) (x0 : Nat) (x1 : Int32) (x2 : Int32) (hx0 : wg_t Sm x0 = 14) (σ : wg_M) (q : Int32 × wg_M) (h : f_X12_saves x0 x1 x2 σ = some q) : wg_MG l E Sm yX12_saves cX12_saves 5 (some .int) rm_X12_saves [.ref x0, .int x1, .int x2] σ (some q.1) q.2 :=
  wg_met [.ref x0, .int x1, .int x2] (plainFor_of_name (by decide)) (Nat.le_of_ble_eq_true rfl) (g_X12_saves_e l E x0 x1 x2 σ q hx0 h)
abbrev rm_X12_findingSet : Room := { frames := 6, cells := 0, slots := 0, locals := 142 }
def tb_X12_findingSet : List (Nat × Instr × Nat) := [(0, .iconst 0, 1), (1, .istore_n 2, 1), (2, .iconst 0, 1), (3, .istore_n 3, 1), (4, .iload_n 3, 1), (5, .aload_n 0, 1), (6, .getfield 128, 3), (9, .if_icmp .ge 32, 3), (12, .aload_n 0, 1), (13, .iload_n 3, 1), (14, .invokevirtual 354, 3), (17, .ifCond .eq 18, 3), (20, .aload_n 0, 1), (21, .iload_n 1, 1), (22, .iload_n 3, 1), (23, .invokevirtual 357, 3), (26, .ifCond .le 9, 3), (29, .iload_n 2, 1), (30, .iconst 1, 1), (31, .iload_n 3, 1), (32, .ishl, 1), (33, .ior, 1), (34, .istore_n 2, 1), (35, .iinc 3 1, 3), (38, .goto (-34), 3), (41, .iload_n 2, 1), (42, .ireturn, 1)]
theorem dt_X12_findingSet : wg_dc cX12_findingSet tb_X12_findingSet := by unfold wg_dc; decide +kernel
def f_X12_findingSet_35 (k4 : Nat → Int32 → Int32 → Int32 → wg_M → Option (Int32 × wg_M)) (x0 : Nat) (x1 : Int32) (x2 : Int32) (x3 : Int32) (σ : wg_M) : Option (Int32 × wg_M) := wg_let (x3 + (1 : Int32)) (fun v1 => k4 x0 x1 x2 v1 σ)
def f_X12_findingSet_4  : Nat → Nat → Int32 → Int32 → Int32 → wg_M → Option (Int32 × wg_M)
  | 0, _, _, _, _, _ => none
  | n + 1, x0, x1, x2, x3, σ => if (σ x0 7) ≤ x3 then (some (x2, σ)) else (wg_bd (f_X12_isAlive x0 x3 σ) (fun v1 s2 => if v1 = 0 then (f_X12_findingSet_35 (f_X12_findingSet_4  n) x0 x1 x2 x3 s2) else (wg_bd (f_X12_verdictOf x0 x1 x3 s2) (fun v3 s4 => if v3 ≤ 0 then (f_X12_findingSet_35 (f_X12_findingSet_4  n) x0 x1 x2 x3 s4) else (wg_let (x2 ||| ((1 : Int32) <<< (x3 &&& 31))) (fun v5 => f_X12_findingSet_35 (f_X12_findingSet_4  n) x0 x1 v5 x3 s4))))))
def f_X12_findingSet  (x0 : Nat) (x1 : Int32) (σ : wg_M) : Option (Int32 × wg_M) := f_X12_findingSet_4  wg_N x0 x1 (0 : Int32) (0 : Int32) σ
set_option maxRecDepth 20000 in
theorem g_X12_findingSet_35 (l : Launch) (E : wg_E) (k4 : Nat → Int32 → Int32 → Int32 → wg_M → Option (Int32 × wg_M)) (x0 : Nat) (x1 : Int32) (x2 : Int32) (x3 : Int32) (σ : wg_M) (z : Int32 × wg_M) (hx0 : wg_t Sm x0 = 14) (hk4 : ∀ (x0 : Nat) (x1 : Int32) (x2 : Int32) (x3 : Int32) (σ : wg_M), wg_t Sm x0 = 14 → k4 x0 x1 x2 x3 σ = some z → wg_G l E Sm "WornWigsModel" cX12_findingSet 4 (some .int) rm_X12_findingSet (some z.1) z.2 4 [some (.ref x0), some (.int x1), some (.int x2), some (.int x3)] [] σ) (h : f_X12_findingSet_35 k4 x0 x1 x2 x3 σ = some z) : wg_G l E Sm "WornWigsModel" cX12_findingSet 4 (some .int) rm_X12_findingSet (some z.1) z.2 35 [some (.ref x0), some (.int x1), some (.int x2), some (.int x3)] [] σ := by
  refine wr_iinc (c0 := (1 : Int32)) (wg_da dt_X12_findingSet 23 rfl) rfl (by decide) (by decide) h (fun v1 h => ?_)
  refine wr_goto 4 (wg_da dt_X12_findingSet 24 rfl) (by decide) ?_
  exact wr_wk [true, true, true, true] (hk4 x0 x1 x2 v1 σ hx0 h)
set_option maxRecDepth 20000 in
theorem g_X12_findingSet_4 (l : Launch) (E : wg_E)  (z : Int32 × wg_M) : ∀ (n : Nat) (x0 : Nat) (x1 : Int32) (x2 : Int32) (x3 : Int32) (σ : wg_M) (hx0 : wg_t Sm x0 = 14) (h : f_X12_findingSet_4  n x0 x1 x2 x3 σ = some z), wg_G l E Sm "WornWigsModel" cX12_findingSet 4 (some .int) rm_X12_findingSet (some z.1) z.2 4 [some (.ref x0), some (.int x1), some (.int x2), some (.int x3)] [] σ := by
  intro n
  induction n with
  | zero => intro x0 x1 x2 x3 σ hx0 h; cases h
  | succ n ih =>
    intro x0 x1 x2 x3 σ hx0 h
    refine wr_iload_n (wg_da dt_X12_findingSet 4 rfl) rfl ?_
    refine wr_aload_n (wg_da dt_X12_findingSet 5 rfl) rfl ?_
    refine wr_getI wf_X12_128 (wg_da dt_X12_findingSet 6 rfl) hx0 ?_
    refine wr_icmp_ge 41 (wg_da dt_X12_findingSet 7 rfl) (by decide) h (fun h => ?_) (fun h => ?_)
    · refine wr_iload_n (wg_da dt_X12_findingSet 25 rfl) rfl ?_
      exact wr_iret (wg_da dt_X12_findingSet 26 rfl) h
    · refine wr_aload_n (wg_da dt_X12_findingSet 8 rfl) rfl ?_
      refine wr_iload_n (wg_da dt_X12_findingSet 9 rfl) rfl ?_
      refine wr_callVi [.int x3] [] (wg_da dt_X12_findingSet 10 rfl) ⟨wq_8_62, wq_8_64, wq_p7_1⟩ hx0 ⟨rfl, by decide⟩ wy_X12_isAlive (fun q hq => m_X12_isAlive l E x0 x3 hx0 _ q hq) rfl rfl (Nat.le_of_ble_eq_true rfl) ⟨rfl, rfl, by decide, by decide⟩ h (fun v1 s2 h => ?_)
      refine wr_if_eq 35 (wg_da dt_X12_findingSet 11 rfl) (by decide) h (fun h => ?_) (fun h => ?_)
      · exact wr_wk [true, true, true, true] (g_X12_findingSet_35 l E (f_X12_findingSet_4  n) x0 x1 x2 x3 s2 _ hx0 (fun x0 x1 x2 x3 σ hx0 h => ih x0 x1 x2 x3 σ hx0 h) h)
      · refine wr_aload_n (wg_da dt_X12_findingSet 12 rfl) rfl ?_
        refine wr_iload_n (wg_da dt_X12_findingSet 13 rfl) rfl ?_
        refine wr_iload_n (wg_da dt_X12_findingSet 14 rfl) rfl ?_
        refine wr_callVi [.int x1, .int x3] [] (wg_da dt_X12_findingSet 15 rfl) ⟨wq_8_74, wq_8_76, wq_p7_4⟩ hx0 ⟨rfl, by decide⟩ wy_X12_verdictOf (fun q hq => m_X12_verdictOf l E x0 x1 x3 hx0 _ q hq) rfl rfl (Nat.le_of_ble_eq_true rfl) ⟨rfl, rfl, by decide, by decide⟩ h (fun v3 s4 h => ?_)
        refine wr_if_le 35 (wg_da dt_X12_findingSet 16 rfl) (by decide) h (fun h => ?_) (fun h => ?_)
        · exact wr_wk [true, true, true, true] (g_X12_findingSet_35 l E (f_X12_findingSet_4  n) x0 x1 x2 x3 s4 _ hx0 (fun x0 x1 x2 x3 σ hx0 h => ih x0 x1 x2 x3 σ hx0 h) h)
        · refine wr_iload_n (wg_da dt_X12_findingSet 17 rfl) rfl ?_
          refine wr_iconst (1 : Int32) (wg_da dt_X12_findingSet 18 rfl) (by decide) ?_
          refine wr_iload_n (wg_da dt_X12_findingSet 19 rfl) rfl ?_
          refine wr_ishl (wg_da dt_X12_findingSet 20 rfl) ?_
          refine wr_ior (wg_da dt_X12_findingSet 21 rfl) ?_
          refine wr_let h (fun v5 h => ?_)
          refine wr_istore_n (wg_da dt_X12_findingSet 22 rfl) (by decide) ?_
          exact wr_wk [true, true, true, true] (g_X12_findingSet_35 l E (f_X12_findingSet_4  n) x0 x1 v5 x3 s4 _ hx0 (fun x0 x1 x2 x3 σ hx0 h => ih x0 x1 x2 x3 σ hx0 h) h)
set_option maxRecDepth 20000 in
theorem g_X12_findingSet_e (l : Launch) (E : wg_E)  (x0 : Nat) (x1 : Int32) (σ : wg_M) (z : Int32 × wg_M) (hx0 : wg_t Sm x0 = 14) (h : f_X12_findingSet  x0 x1 σ = some z) : wg_G l E Sm "WornWigsModel" cX12_findingSet 4 (some .int) rm_X12_findingSet (some z.1) z.2 0 [some (.ref x0), some (.int x1), none, none] [] σ := by
  refine wr_iconst (0 : Int32) (wg_da dt_X12_findingSet 0 rfl) (by decide) ?_
  refine wr_istore_n (wg_da dt_X12_findingSet 1 rfl) (by decide) ?_
  refine wr_iconst (0 : Int32) (wg_da dt_X12_findingSet 2 rfl) (by decide) ?_
  refine wr_istore_n (wg_da dt_X12_findingSet 3 rfl) (by decide) ?_
  exact wr_wk [true, true, true, true] (g_X12_findingSet_4 l E  _  wg_N x0 x1 (0 : Int32) (0 : Int32) σ hx0 h)
theorem m_X12_findingSet (l : Launch) (E : wg_E) (x0 : Nat) (x1 : Int32) (hx0 : wg_t Sm x0 = 14) (σ : wg_M) (q : Int32 × wg_M) (h : f_X12_findingSet x0 x1 σ = some q) : wg_MG l E Sm yX12_findingSet cX12_findingSet 4 (some .int) rm_X12_findingSet [.ref x0, .int x1] σ (some q.1) q.2 :=
  wg_met [.ref x0, .int x1] (plainFor_of_name (by decide)) (Nat.le_of_ble_eq_true rfl) (g_X12_findingSet_e l E x0 x1 σ q hx0 h)
abbrev rm_X12_panels : Room := { frames := 7, cells := 0, slots := 0, locals := 165 }
def tb_X12_panels : List (Nat × Instr × Nat) := [(0, .aload_n 0, 1), (1, .iconst 0, 1), (2, .putfield 113, 3), (5, .aload_n 0, 1), (6, .iload_n 1, 1), (7, .invokevirtual 167, 3), (10, .ifCond .eq 24, 3), (13, .iload_n 2, 1), (14, .ifCond .eq 22, 3), (17, .aload_n 0, 1), (18, .iload_n 2, 1), (19, .bipush 10, 2), (21, .bipush 9, 2), (23, .aload_n 0, 1), (24, .getfield 128, 3), (27, .iadd, 1), (28, .invokevirtual 153, 3), (31, .ifCond .ne 5, 3), (34, .iconst (-1), 1), (35, .ireturn, 1), (36, .aload_n 0, 1), (37, .iload_n 1, 1), (38, .invokevirtual 471, 3), (41, .istore_n 3, 1), (42, .iconst 1, 1), (43, .aload_n 0, 1), (44, .getfield 128, 3), (47, .ishl, 1), (48, .iconst 1, 1), (49, .isub, 1), (50, .aload_n 0, 1), (51, .invokevirtual 432, 3), (54, .iconst (-1), 1), (55, .ixor, 1), (56, .iand, 1), (57, .istore 4, 2), (59, .iconst 0, 1), (60, .istore 5, 2), (62, .iconst 0, 1), (63, .istore 6, 2), (65, .iload 6, 2), (67, .iconst 1, 1), (68, .aload_n 0, 1), (69, .getfield 128, 3), (72, .ishl, 1), (73, .if_icmp .ge 98, 3), (76, .iload 6, 2), (78, .iload 4, 2), (80, .iconst (-1), 1), (81, .ixor, 1), (82, .iand, 1), (83, .ifCond .ne 82, 3), (86, .aload_n 0, 1), (87, .iload 6, 2), (89, .invokevirtual 435, 3), (92, .iconst 3, 1), (93, .if_icmp .eq 6, 3), (96, .goto 69, 3), (99, .iload_n 2, 1), (100, .ifCond .ne 21, 3), (103, .aload_n 0, 1), (104, .iload 6, 2), (106, .iload_n 3, 1), (107, .iand, 1), (108, .invokevirtual 435, 3), (111, .iconst 1, 1), (112, .if_icmp .le 9, 3), (115, .iload 5, 2), (117, .iconst 1, 1), (118, .iadd, 1), (119, .istore 5, 2), (121, .iload_n 2, 1), (122, .ifCond .le 43, 3), (125, .aload_n 0, 1), (126, .iload 6, 2), (128, .iload_n 2, 1), (129, .bipush 10, 2), (131, .isub, 1), (132, .invokevirtual 441, 3), (135, .ifCond .eq 30, 3), (138, .aload_n 0, 1), (139, .iload 6, 2), (141, .iload_n 3, 1), (142, .iand, 1), (143, .iconst 1, 1), (144, .iload_n 2, 1), (145, .bipush 10, 2), (147, .isub, 1), (148, .ishl, 1), (149, .iconst (-1), 1), (150, .ixor, 1), (151, .iand, 1), (152, .invokevirtual 435, 3), (155, .iconst 1, 1), (156, .if_icmp .ne 9, 3), (159, .iload 5, 2), (161, .iconst 1, 1), (162, .iadd, 1), (163, .istore 5, 2), (165, .iinc 6 1, 3), (168, .goto (-103), 3), (171, .iload 5, 2), (173, .ireturn, 1)]
theorem dt_X12_panels : wg_dc cX12_panels tb_X12_panels := by unfold wg_dc; decide +kernel
def f_X12_panels_165 (k65 : Nat → Int32 → Int32 → Int32 → Int32 → Int32 → wg_M → Option (Int32 × wg_M)) (x0 : Nat) (x2 : Int32) (x3 : Int32) (x4 : Int32) (x5 : Int32) (x6 : Int32) (σ : wg_M) : Option (Int32 × wg_M) := wg_let (x6 + (1 : Int32)) (fun v1 => k65 x0 x2 x3 x4 x5 v1 σ)
def f_X12_panels_121 (k65 : Nat → Int32 → Int32 → Int32 → Int32 → Int32 → wg_M → Option (Int32 × wg_M)) (x0 : Nat) (x2 : Int32) (x3 : Int32) (x4 : Int32) (x5 : Int32) (x6 : Int32) (σ : wg_M) : Option (Int32 × wg_M) := if x2 ≤ 0 then (f_X12_panels_165 k65 x0 x2 x3 x4 x5 x6 σ) else (wg_bd (f_X12_has x0 x6 (x2 - (10 : Int32)) σ) (fun v1 s2 => if v1 = 0 then (f_X12_panels_165 k65 x0 x2 x3 x4 x5 x6 s2) else (wg_bd (f_X12_onesOf x0 ((x6 &&& x3) &&& (((1 : Int32) <<< ((x2 - (10 : Int32)) &&& 31)) ^^^ (-1 : Int32))) s2) (fun v3 s4 => if v3 = (1 : Int32) then (wg_let (x5 + (1 : Int32)) (fun v5 => f_X12_panels_165 k65 x0 x2 x3 x4 v5 x6 s4)) else (f_X12_panels_165 k65 x0 x2 x3 x4 x5 x6 s4)))))
def f_X12_panels_65  : Nat → Nat → Int32 → Int32 → Int32 → Int32 → Int32 → wg_M → Option (Int32 × wg_M)
  | 0, _, _, _, _, _, _, _ => none
  | n + 1, x0, x2, x3, x4, x5, x6, σ => if ((1 : Int32) <<< ((σ x0 7) &&& 31)) ≤ x6 then (some (x5, σ)) else (if (x6 &&& (x4 ^^^ (-1 : Int32))) = 0 then (wg_bd (f_X12_onesOf x0 x6 σ) (fun v1 s2 => if v1 = (3 : Int32) then (if x2 = 0 then (wg_bd (f_X12_onesOf x0 (x6 &&& x3) s2) (fun v3 s4 => if v3 ≤ (1 : Int32) then (f_X12_panels_121 (f_X12_panels_65  n) x0 x2 x3 x4 x5 x6 s4) else (wg_let (x5 + (1 : Int32)) (fun v5 => f_X12_panels_121 (f_X12_panels_65  n) x0 x2 x3 x4 v5 x6 s4)))) else (f_X12_panels_121 (f_X12_panels_65  n) x0 x2 x3 x4 x5 x6 s2)) else (f_X12_panels_165 (f_X12_panels_65  n) x0 x2 x3 x4 x5 x6 s2))) else (f_X12_panels_165 (f_X12_panels_65  n) x0 x2 x3 x4 x5 x6 σ))
def f_X12_panels_36  (x0 : Nat) (x1 : Int32) (x2 : Int32) (σ : wg_M) : Option (Int32 × wg_M) := wg_bd (f_X12_findingSet x0 x1 σ) (fun v1 s2 => wg_bd (f_X12_deadSet x0 s2) (fun v3 s4 => wg_let ((((1 : Int32) <<< ((s2 x0 7) &&& 31)) - (1 : Int32)) &&& (v3 ^^^ (-1 : Int32))) (fun v5 => f_X12_panels_65  wg_N x0 x2 v1 v5 (0 : Int32) (0 : Int32) s4)))
def f_X12_panels  (x0 : Nat) (x1 : Int32) (x2 : Int32) (σ : wg_M) : Option (Int32 × wg_M) := wg_st σ x0 0 (0 : Int32) (fun s1 => wg_bd (f_X12_isTrial x0 x1 s1) (fun v2 s3 => if v2 = 0 then (some ((-1 : Int32), s3)) else (if x2 = 0 then (f_X12_panels_36  x0 x1 x2 s3) else (wg_bd (f_X12_isIn x0 x2 (10 : Int32) ((9 : Int32) + (s3 x0 7)) s3) (fun v4 s5 => if v4 = 0 then (some ((-1 : Int32), s5)) else (f_X12_panels_36  x0 x1 x2 s5))))))
set_option maxRecDepth 20000 in
theorem g_X12_panels_165 (l : Launch) (E : wg_E) (k65 : Nat → Int32 → Int32 → Int32 → Int32 → Int32 → wg_M → Option (Int32 × wg_M)) (x0 : Nat) (x2 : Int32) (x3 : Int32) (x4 : Int32) (x5 : Int32) (x6 : Int32) (σ : wg_M) (z : Int32 × wg_M) (hx0 : wg_t Sm x0 = 14) (hk65 : ∀ (x0 : Nat) (x2 : Int32) (x3 : Int32) (x4 : Int32) (x5 : Int32) (x6 : Int32) (σ : wg_M), wg_t Sm x0 = 14 → k65 x0 x2 x3 x4 x5 x6 σ = some z → wg_G l E Sm "WornWigsModel" cX12_panels 7 (some .int) rm_X12_panels (some z.1) z.2 65 [some (.ref x0), none, some (.int x2), some (.int x3), some (.int x4), some (.int x5), some (.int x6)] [] σ) (h : f_X12_panels_165 k65 x0 x2 x3 x4 x5 x6 σ = some z) : wg_G l E Sm "WornWigsModel" cX12_panels 7 (some .int) rm_X12_panels (some z.1) z.2 165 [some (.ref x0), none, some (.int x2), some (.int x3), some (.int x4), some (.int x5), some (.int x6)] [] σ := by
  refine wr_iinc (c0 := (1 : Int32)) (wg_da dt_X12_panels 99 rfl) rfl (by decide) (by decide) h (fun v1 h => ?_)
  refine wr_goto 65 (wg_da dt_X12_panels 100 rfl) (by decide) ?_
  exact wr_wk [true, false, true, true, true, true, true] (hk65 x0 x2 x3 x4 x5 v1 σ hx0 h)
set_option maxRecDepth 20000 in
theorem g_X12_panels_121 (l : Launch) (E : wg_E) (k65 : Nat → Int32 → Int32 → Int32 → Int32 → Int32 → wg_M → Option (Int32 × wg_M)) (x0 : Nat) (x2 : Int32) (x3 : Int32) (x4 : Int32) (x5 : Int32) (x6 : Int32) (σ : wg_M) (z : Int32 × wg_M) (hx0 : wg_t Sm x0 = 14) (hk65 : ∀ (x0 : Nat) (x2 : Int32) (x3 : Int32) (x4 : Int32) (x5 : Int32) (x6 : Int32) (σ : wg_M), wg_t Sm x0 = 14 → k65 x0 x2 x3 x4 x5 x6 σ = some z → wg_G l E Sm "WornWigsModel" cX12_panels 7 (some .int) rm_X12_panels (some z.1) z.2 65 [some (.ref x0), none, some (.int x2), some (.int x3), some (.int x4), some (.int x5), some (.int x6)] [] σ) (h : f_X12_panels_121 k65 x0 x2 x3 x4 x5 x6 σ = some z) : wg_G l E Sm "WornWigsModel" cX12_panels 7 (some .int) rm_X12_panels (some z.1) z.2 121 [some (.ref x0), none, some (.int x2), some (.int x3), some (.int x4), some (.int x5), some (.int x6)] [] σ := by
  refine wr_iload_n (wg_da dt_X12_panels 71 rfl) rfl ?_
  refine wr_if_le 165 (wg_da dt_X12_panels 72 rfl) (by decide) h (fun h => ?_) (fun h => ?_)
  · exact wr_wk [true, false, true, true, true, true, true] (g_X12_panels_165 l E k65 x0 x2 x3 x4 x5 x6 σ _ hx0 hk65 h)
  · refine wr_aload_n (wg_da dt_X12_panels 73 rfl) rfl ?_
    refine wr_iload (wg_da dt_X12_panels 74 rfl) rfl ?_
    refine wr_iload_n (wg_da dt_X12_panels 75 rfl) rfl ?_
    refine wr_bipush (10 : Int32) (wg_da dt_X12_panels 76 rfl) (by decide) ?_
    refine wr_isub (wg_da dt_X12_panels 77 rfl) ?_
    refine wr_callVi [.int x6, .int (x2 - (10 : Int32))] [] (wg_da dt_X12_panels 78 rfl) ⟨wq_9_21, wq_9_23, wq_p9_7⟩ hx0 ⟨rfl, by decide⟩ wy_X12_has (fun q hq => m_X12_has l E x0 x6 (x2 - (10 : Int32)) hx0 _ q hq) rfl rfl (Nat.le_of_ble_eq_true rfl) ⟨rfl, rfl, by decide, by decide⟩ h (fun v1 s2 h => ?_)
    refine wr_if_eq 165 (wg_da dt_X12_panels 79 rfl) (by decide) h (fun h => ?_) (fun h => ?_)
    · exact wr_wk [true, false, true, true, true, true, true] (g_X12_panels_165 l E k65 x0 x2 x3 x4 x5 x6 s2 _ hx0 hk65 h)
    · refine wr_aload_n (wg_da dt_X12_panels 80 rfl) rfl ?_
      refine wr_iload (wg_da dt_X12_panels 81 rfl) rfl ?_
      refine wr_iload_n (wg_da dt_X12_panels 82 rfl) rfl ?_
      refine wr_iand (wg_da dt_X12_panels 83 rfl) ?_
      refine wr_iconst (1 : Int32) (wg_da dt_X12_panels 84 rfl) (by decide) ?_
      refine wr_iload_n (wg_da dt_X12_panels 85 rfl) rfl ?_
      refine wr_bipush (10 : Int32) (wg_da dt_X12_panels 86 rfl) (by decide) ?_
      refine wr_isub (wg_da dt_X12_panels 87 rfl) ?_
      refine wr_ishl (wg_da dt_X12_panels 88 rfl) ?_
      refine wr_iconst (-1 : Int32) (wg_da dt_X12_panels 89 rfl) (by decide) ?_
      refine wr_ixor (wg_da dt_X12_panels 90 rfl) ?_
      refine wr_iand (wg_da dt_X12_panels 91 rfl) ?_
      refine wr_callVi [.int ((x6 &&& x3) &&& (((1 : Int32) <<< ((x2 - (10 : Int32)) &&& 31)) ^^^ (-1 : Int32)))] [] (wg_da dt_X12_panels 92 rfl) ⟨wq_8_237, wq_8_239, wq_p9_4⟩ hx0 ⟨rfl, by decide⟩ wy_X12_onesOf (fun q hq => m_X12_onesOf l E x0 ((x6 &&& x3) &&& (((1 : Int32) <<< ((x2 - (10 : Int32)) &&& 31)) ^^^ (-1 : Int32))) hx0 _ q hq) rfl rfl (Nat.le_of_ble_eq_true rfl) ⟨rfl, rfl, by decide, by decide⟩ h (fun v3 s4 h => ?_)
      refine wr_iconst (1 : Int32) (wg_da dt_X12_panels 93 rfl) (by decide) ?_
      refine wr_icmp_ne 165 (wg_da dt_X12_panels 94 rfl) (by decide) h (fun h => ?_) (fun h => ?_)
      · refine wr_iload (wg_da dt_X12_panels 95 rfl) rfl ?_
        refine wr_iconst (1 : Int32) (wg_da dt_X12_panels 96 rfl) (by decide) ?_
        refine wr_iadd (wg_da dt_X12_panels 97 rfl) ?_
        refine wr_let h (fun v5 h => ?_)
        refine wr_istore (wg_da dt_X12_panels 98 rfl) (by decide) ?_
        exact wr_wk [true, false, true, true, true, true, true] (g_X12_panels_165 l E k65 x0 x2 x3 x4 v5 x6 s4 _ hx0 hk65 h)
      · exact wr_wk [true, false, true, true, true, true, true] (g_X12_panels_165 l E k65 x0 x2 x3 x4 x5 x6 s4 _ hx0 hk65 h)
set_option maxRecDepth 20000 in
theorem g_X12_panels_65 (l : Launch) (E : wg_E)  (z : Int32 × wg_M) : ∀ (n : Nat) (x0 : Nat) (x2 : Int32) (x3 : Int32) (x4 : Int32) (x5 : Int32) (x6 : Int32) (σ : wg_M) (hx0 : wg_t Sm x0 = 14) (h : f_X12_panels_65  n x0 x2 x3 x4 x5 x6 σ = some z), wg_G l E Sm "WornWigsModel" cX12_panels 7 (some .int) rm_X12_panels (some z.1) z.2 65 [some (.ref x0), none, some (.int x2), some (.int x3), some (.int x4), some (.int x5), some (.int x6)] [] σ := by
  intro n
  induction n with
  | zero => intro x0 x2 x3 x4 x5 x6 σ hx0 h; cases h
  | succ n ih =>
    intro x0 x2 x3 x4 x5 x6 σ hx0 h
    refine wr_iload (wg_da dt_X12_panels 40 rfl) rfl ?_
    refine wr_iconst (1 : Int32) (wg_da dt_X12_panels 41 rfl) (by decide) ?_
    refine wr_aload_n (wg_da dt_X12_panels 42 rfl) rfl ?_
    refine wr_getI wf_X12_128 (wg_da dt_X12_panels 43 rfl) hx0 ?_
    refine wr_ishl (wg_da dt_X12_panels 44 rfl) ?_
    refine wr_icmp_ge 171 (wg_da dt_X12_panels 45 rfl) (by decide) h (fun h => ?_) (fun h => ?_)
    · refine wr_iload (wg_da dt_X12_panels 101 rfl) rfl ?_
      exact wr_iret (wg_da dt_X12_panels 102 rfl) h
    · refine wr_iload (wg_da dt_X12_panels 46 rfl) rfl ?_
      refine wr_iload (wg_da dt_X12_panels 47 rfl) rfl ?_
      refine wr_iconst (-1 : Int32) (wg_da dt_X12_panels 48 rfl) (by decide) ?_
      refine wr_ixor (wg_da dt_X12_panels 49 rfl) ?_
      refine wr_iand (wg_da dt_X12_panels 50 rfl) ?_
      refine wr_if_ne 165 (wg_da dt_X12_panels 51 rfl) (by decide) h (fun h => ?_) (fun h => ?_)
      · refine wr_aload_n (wg_da dt_X12_panels 52 rfl) rfl ?_
        refine wr_iload (wg_da dt_X12_panels 53 rfl) rfl ?_
        refine wr_callVi [.int x6] [] (wg_da dt_X12_panels 54 rfl) ⟨wq_8_237, wq_8_239, wq_p9_4⟩ hx0 ⟨rfl, by decide⟩ wy_X12_onesOf (fun q hq => m_X12_onesOf l E x0 x6 hx0 _ q hq) rfl rfl (Nat.le_of_ble_eq_true rfl) ⟨rfl, rfl, by decide, by decide⟩ h (fun v1 s2 h => ?_)
        refine wr_iconst (3 : Int32) (wg_da dt_X12_panels 55 rfl) (by decide) ?_
        refine wr_icmp_eq 99 (wg_da dt_X12_panels 56 rfl) (by decide) h (fun h => ?_) (fun h => ?_)
        · refine wr_iload_n (wg_da dt_X12_panels 58 rfl) rfl ?_
          refine wr_if_ne 121 (wg_da dt_X12_panels 59 rfl) (by decide) h (fun h => ?_) (fun h => ?_)
          · refine wr_aload_n (wg_da dt_X12_panels 60 rfl) rfl ?_
            refine wr_iload (wg_da dt_X12_panels 61 rfl) rfl ?_
            refine wr_iload_n (wg_da dt_X12_panels 62 rfl) rfl ?_
            refine wr_iand (wg_da dt_X12_panels 63 rfl) ?_
            refine wr_callVi [.int (x6 &&& x3)] [] (wg_da dt_X12_panels 64 rfl) ⟨wq_8_237, wq_8_239, wq_p9_4⟩ hx0 ⟨rfl, by decide⟩ wy_X12_onesOf (fun q hq => m_X12_onesOf l E x0 (x6 &&& x3) hx0 _ q hq) rfl rfl (Nat.le_of_ble_eq_true rfl) ⟨rfl, rfl, by decide, by decide⟩ h (fun v3 s4 h => ?_)
            refine wr_iconst (1 : Int32) (wg_da dt_X12_panels 65 rfl) (by decide) ?_
            refine wr_icmp_le 121 (wg_da dt_X12_panels 66 rfl) (by decide) h (fun h => ?_) (fun h => ?_)
            · exact wr_wk [true, false, true, true, true, true, true] (g_X12_panels_121 l E (f_X12_panels_65  n) x0 x2 x3 x4 x5 x6 s4 _ hx0 (fun x0 x2 x3 x4 x5 x6 σ hx0 h => ih x0 x2 x3 x4 x5 x6 σ hx0 h) h)
            · refine wr_iload (wg_da dt_X12_panels 67 rfl) rfl ?_
              refine wr_iconst (1 : Int32) (wg_da dt_X12_panels 68 rfl) (by decide) ?_
              refine wr_iadd (wg_da dt_X12_panels 69 rfl) ?_
              refine wr_let h (fun v5 h => ?_)
              refine wr_istore (wg_da dt_X12_panels 70 rfl) (by decide) ?_
              exact wr_wk [true, false, true, true, true, true, true] (g_X12_panels_121 l E (f_X12_panels_65  n) x0 x2 x3 x4 v5 x6 s4 _ hx0 (fun x0 x2 x3 x4 x5 x6 σ hx0 h => ih x0 x2 x3 x4 x5 x6 σ hx0 h) h)
          · exact wr_wk [true, false, true, true, true, true, true] (g_X12_panels_121 l E (f_X12_panels_65  n) x0 x2 x3 x4 x5 x6 s2 _ hx0 (fun x0 x2 x3 x4 x5 x6 σ hx0 h => ih x0 x2 x3 x4 x5 x6 σ hx0 h) h)
        · refine wr_goto 165 (wg_da dt_X12_panels 57 rfl) (by decide) ?_
          exact wr_wk [true, false, true, true, true, true, true] (g_X12_panels_165 l E (f_X12_panels_65  n) x0 x2 x3 x4 x5 x6 s2 _ hx0 (fun x0 x2 x3 x4 x5 x6 σ hx0 h => ih x0 x2 x3 x4 x5 x6 σ hx0 h) h)
      · exact wr_wk [true, false, true, true, true, true, true] (g_X12_panels_165 l E (f_X12_panels_65  n) x0 x2 x3 x4 x5 x6 σ _ hx0 (fun x0 x2 x3 x4 x5 x6 σ hx0 h => ih x0 x2 x3 x4 x5 x6 σ hx0 h) h)
set_option maxRecDepth 20000 in
theorem g_X12_panels_36 (l : Launch) (E : wg_E)  (x0 : Nat) (x1 : Int32) (x2 : Int32) (σ : wg_M) (z : Int32 × wg_M) (hx0 : wg_t Sm x0 = 14) (h : f_X12_panels_36  x0 x1 x2 σ = some z) : wg_G l E Sm "WornWigsModel" cX12_panels 7 (some .int) rm_X12_panels (some z.1) z.2 36 [some (.ref x0), some (.int x1), some (.int x2), none, none, none, none] [] σ := by
  refine wr_aload_n (wg_da dt_X12_panels 20 rfl) rfl ?_
  refine wr_iload_n (wg_da dt_X12_panels 21 rfl) rfl ?_
  refine wr_callVi [.int x1] [] (wg_da dt_X12_panels 22 rfl) ⟨wq_9_77, wq_9_79, wq_p10_0⟩ hx0 ⟨rfl, by decide⟩ wy_X12_findingSet (fun q hq => m_X12_findingSet l E x0 x1 hx0 _ q hq) rfl rfl (Nat.le_of_ble_eq_true rfl) ⟨rfl, rfl, by decide, by decide⟩ h (fun v1 s2 h => ?_)
  refine wr_istore_n (wg_da dt_X12_panels 23 rfl) (by decide) ?_
  refine wr_iconst (1 : Int32) (wg_da dt_X12_panels 24 rfl) (by decide) ?_
  refine wr_aload_n (wg_da dt_X12_panels 25 rfl) rfl ?_
  refine wr_getI wf_X12_128 (wg_da dt_X12_panels 26 rfl) hx0 ?_
  refine wr_ishl (wg_da dt_X12_panels 27 rfl) ?_
  refine wr_iconst (1 : Int32) (wg_da dt_X12_panels 28 rfl) (by decide) ?_
  refine wr_isub (wg_da dt_X12_panels 29 rfl) ?_
  refine wr_aload_n (wg_da dt_X12_panels 30 rfl) rfl ?_
  refine wr_callVi [] [.int (((1 : Int32) <<< ((s2 x0 7) &&& 31)) - (1 : Int32))] (wg_da dt_X12_panels 31 rfl) ⟨wq_8_233, wq_8_235, wq_p9_3⟩ hx0 ⟨rfl, by decide⟩ wy_X12_deadSet (fun q hq => m_X12_deadSet l E x0 hx0 _ q hq) rfl rfl (Nat.le_of_ble_eq_true rfl) ⟨rfl, rfl, by decide, by decide⟩ h (fun v3 s4 h => ?_)
  refine wr_iconst (-1 : Int32) (wg_da dt_X12_panels 32 rfl) (by decide) ?_
  refine wr_ixor (wg_da dt_X12_panels 33 rfl) ?_
  refine wr_iand (wg_da dt_X12_panels 34 rfl) ?_
  refine wr_let h (fun v5 h => ?_)
  refine wr_istore (wg_da dt_X12_panels 35 rfl) (by decide) ?_
  refine wr_iconst (0 : Int32) (wg_da dt_X12_panels 36 rfl) (by decide) ?_
  refine wr_istore (wg_da dt_X12_panels 37 rfl) (by decide) ?_
  refine wr_iconst (0 : Int32) (wg_da dt_X12_panels 38 rfl) (by decide) ?_
  refine wr_istore (wg_da dt_X12_panels 39 rfl) (by decide) ?_
  exact wr_wk [true, false, true, true, true, true, true] (g_X12_panels_65 l E  _  wg_N x0 x2 v1 v5 (0 : Int32) (0 : Int32) s4 hx0 h)
set_option maxRecDepth 20000 in
theorem g_X12_panels_e (l : Launch) (E : wg_E)  (x0 : Nat) (x1 : Int32) (x2 : Int32) (σ : wg_M) (z : Int32 × wg_M) (hx0 : wg_t Sm x0 = 14) (h : f_X12_panels  x0 x1 x2 σ = some z) : wg_G l E Sm "WornWigsModel" cX12_panels 7 (some .int) rm_X12_panels (some z.1) z.2 0 [some (.ref x0), some (.int x1), some (.int x2), none, none, none, none] [] σ := by
  refine wr_aload_n (wg_da dt_X12_panels 0 rfl) rfl ?_
  refine wr_iconst (0 : Int32) (wg_da dt_X12_panels 1 rfl) (by decide) ?_
  refine wr_putI wfp_X12_113 (wg_da dt_X12_panels 2 rfl) hx0 h (fun s1 h => ?_)
  refine wr_aload_n (wg_da dt_X12_panels 3 rfl) rfl ?_
  refine wr_iload_n (wg_da dt_X12_panels 4 rfl) rfl ?_
  refine wr_callVi [.int x1] [] (wg_da dt_X12_panels 5 rfl) ⟨wq_7_134, wq_7_136, wq_p4_12⟩ hx0 ⟨rfl, by decide⟩ wy_X12_isTrial (fun q hq => m_X12_isTrial l E x0 x1 hx0 _ q hq) rfl rfl (Nat.le_of_ble_eq_true rfl) ⟨rfl, rfl, by decide, by decide⟩ h (fun v2 s3 h => ?_)
  refine wr_if_eq 34 (wg_da dt_X12_panels 6 rfl) (by decide) h (fun h => ?_) (fun h => ?_)
  · refine wr_iconst (-1 : Int32) (wg_da dt_X12_panels 18 rfl) (by decide) ?_
    exact wr_iret (wg_da dt_X12_panels 19 rfl) h
  · refine wr_iload_n (wg_da dt_X12_panels 7 rfl) rfl ?_
    refine wr_if_eq 36 (wg_da dt_X12_panels 8 rfl) (by decide) h (fun h => ?_) (fun h => ?_)
    · exact wr_wk [true, true, true, false, false, false, false] (g_X12_panels_36 l E  x0 x1 x2 s3 _ hx0  h)
    · refine wr_aload_n (wg_da dt_X12_panels 9 rfl) rfl ?_
      refine wr_iload_n (wg_da dt_X12_panels 10 rfl) rfl ?_
      refine wr_bipush (10 : Int32) (wg_da dt_X12_panels 11 rfl) (by decide) ?_
      refine wr_bipush (9 : Int32) (wg_da dt_X12_panels 12 rfl) (by decide) ?_
      refine wr_aload_n (wg_da dt_X12_panels 13 rfl) rfl ?_
      refine wr_getI wf_X12_128 (wg_da dt_X12_panels 14 rfl) hx0 ?_
      refine wr_iadd (wg_da dt_X12_panels 15 rfl) ?_
      refine wr_callVi [.int x2, .int (10 : Int32), .int ((9 : Int32) + (s3 x0 7))] [] (wg_da dt_X12_panels 16 rfl) ⟨wq_7_82, wq_7_84, wq_p4_3⟩ hx0 ⟨rfl, by decide⟩ wy_X12_isIn (fun q hq => m_X12_isIn l E x0 x2 (10 : Int32) ((9 : Int32) + (s3 x0 7)) hx0 _ q hq) rfl rfl (Nat.le_of_ble_eq_true rfl) ⟨rfl, rfl, by decide, by decide⟩ h (fun v4 s5 h => ?_)
      refine wr_if_ne 36 (wg_da dt_X12_panels 17 rfl) (by decide) h (fun h => ?_) (fun h => ?_)
      · refine wr_iconst (-1 : Int32) (wg_da dt_X12_panels 18 rfl) (by decide) ?_
        exact wr_iret (wg_da dt_X12_panels 19 rfl) h
      · exact wr_wk [true, true, true, false, false, false, false] (g_X12_panels_36 l E  x0 x1 x2 s5 _ hx0  h)
theorem m_X12_panels (l : Launch) (E : wg_E) (x0 : Nat) (x1 : Int32) (x2 : Int32) (hx0 : wg_t Sm x0 = 14) (σ : wg_M) (q : Int32 × wg_M) (h : f_X12_panels x0 x1 x2 σ = some q) : wg_MG l E Sm yX12_panels cX12_panels 7 (some .int) rm_X12_panels [.ref x0, .int x1, .int x2] σ (some q.1) q.2 :=
  wg_met [.ref x0, .int x1, .int x2] (plainFor_of_name (by decide)) (Nat.le_of_ble_eq_true rfl) (g_X12_panels_e l E x0 x1 x2 σ q hx0 h)
abbrev rm_X12_trait : Room := { frames := 1, cells := 0, slots := 0, locals := 23 }
def tb_X12_trait : List (Nat × Instr × Nat) := [(0, .aload_n 0, 1), (1, .iconst 0, 1), (2, .putfield 113, 3), (5, .iload_n 1, 1), (6, .iconst (-1), 1), (7, .if_icmp .ne 10, 3), (10, .aload_n 0, 1), (11, .iconst 0, 1), (12, .putfield 474, 3), (15, .iconst 0, 1), (16, .ireturn, 1), (17, .aload_n 0, 1), (18, .iload_n 1, 1), (19, .iconst 0, 1), (20, .iconst 3, 1), (21, .invokevirtual 153, 3), (24, .ifCond .eq 41, 3), (27, .aload_n 0, 1), (28, .iload_n 2, 1), (29, .iconst 0, 1), (30, .iload_n 1, 1), (31, .ifCond .ne 7, 3), (34, .iconst 2, 1), (35, .goto 15, 3), (38, .iload_n 1, 1), (39, .iconst 2, 1), (40, .if_icmp .ne 8, 3), (43, .bipush 7, 2), (45, .goto 5, 3), (48, .bipush 99, 2), (50, .invokevirtual 153, 3), (53, .ifCond .eq 12, 3), (56, .aload_n 0, 1), (57, .getfield 474, 3), (60, .bipush 8, 2), (62, .if_icmp .ne 5, 3), (65, .iconst (-1), 1), (66, .ireturn, 1), (67, .aload_n 0, 1), (68, .getfield 83, 3), (71, .aload_n 0, 1), (72, .getfield 474, 3), (75, .iload_n 1, 1), (76, .iastore, 1), (77, .aload_n 0, 1), (78, .getfield 86, 3), (81, .aload_n 0, 1), (82, .getfield 474, 3), (85, .iload_n 2, 1), (86, .iastore, 1), (87, .aload_n 0, 1), (88, .getfield 89, 3), (91, .aload_n 0, 1), (92, .getfield 474, 3), (95, .iload_n 3, 1), (96, .ifCond .eq 7, 3), (99, .iconst 1, 1), (100, .goto 4, 3), (103, .iconst 0, 1), (104, .iastore, 1), (105, .aload_n 0, 1), (106, .aload_n 0, 1), (107, .getfield 474, 3), (110, .iconst 1, 1), (111, .iadd, 1), (112, .putfield 474, 3), (115, .aload_n 0, 1), (116, .getfield 474, 3), (119, .ireturn, 1)]
theorem dt_X12_trait : wg_dc cX12_trait tb_X12_trait := by unfold wg_dc; decide +kernel
def f_X12_trait_104  (x0 : Nat) (t0 : Int32) (t1 : Int32) (t2 : Nat) (σ : wg_M) : Option (Int32 × wg_M) := wg_sa (wg_n Sm t2) σ t2 t1 t0 (fun s1 => wg_st s1 x0 45 ((s1 x0 45) + (1 : Int32)) (fun s2 => some (s2 x0 45, s2)))
def f_X12_trait_50  (x0 : Nat) (x1 : Int32) (x2 : Int32) (x3 : Int32) (t0 : Int32) (t1 : Int32) (t2 : Int32) (t3 : Nat) (σ : wg_M) : Option (Int32 × wg_M) := wg_bd (f_X12_isIn t3 t2 t1 t0 σ) (fun v1 s2 => if v1 = 0 then (some ((-1 : Int32), s2)) else (if (s2 x0 45) = (8 : Int32) then (some ((-1 : Int32), s2)) else (wg_sa (wg_n Sm (wg_r Sm x0 46)) s2 (wg_r Sm x0 46) (s2 x0 45) x1 (fun s3 => wg_sa (wg_n Sm (wg_r Sm x0 47)) s3 (wg_r Sm x0 47) (s3 x0 45) x2 (fun s4 => if x3 = 0 then (f_X12_trait_104  x0 (0 : Int32) (s4 x0 45) (wg_r Sm x0 48) s4) else (f_X12_trait_104  x0 (1 : Int32) (s4 x0 45) (wg_r Sm x0 48) s4))))))
def f_X12_trait  (x0 : Nat) (x1 : Int32) (x2 : Int32) (x3 : Int32) (σ : wg_M) : Option (Int32 × wg_M) := wg_st σ x0 0 (0 : Int32) (fun s1 => if x1 = (-1 : Int32) then (wg_st s1 x0 45 (0 : Int32) (fun s4 => some ((0 : Int32), s4))) else (wg_bd (f_X12_isIn x0 x1 (0 : Int32) (3 : Int32) s1) (fun v2 s3 => if v2 = 0 then (some ((-1 : Int32), s3)) else (if x1 = 0 then (f_X12_trait_50  x0 x1 x2 x3 (2 : Int32) (0 : Int32) x2 x0 s3) else (if x1 = (2 : Int32) then (f_X12_trait_50  x0 x1 x2 x3 (7 : Int32) (0 : Int32) x2 x0 s3) else (f_X12_trait_50  x0 x1 x2 x3 (99 : Int32) (0 : Int32) x2 x0 s3))))))
set_option maxRecDepth 20000 in
theorem g_X12_trait_104 (l : Launch) (E : wg_E)  (x0 : Nat) (t0 : Int32) (t1 : Int32) (t2 : Nat) (σ : wg_M) (z : Int32 × wg_M) (hx0 : wg_t Sm x0 = 14) (ht2 : wg_t Sm t2 = 0) (h : f_X12_trait_104  x0 t0 t1 t2 σ = some z) : wg_G l E Sm "WornWigsModel" cX12_trait 4 (some .int) rm_X12_trait (some z.1) z.2 104 [some (.ref x0), none, none, none] [.int t0, .int t1, .ref t2] σ := by
  refine wr_iast (wg_da dt_X12_trait 59 rfl) ht2 h (fun s1 h => ?_)
  refine wr_aload_n (wg_da dt_X12_trait 60 rfl) rfl ?_
  refine wr_aload_n (wg_da dt_X12_trait 61 rfl) rfl ?_
  refine wr_getI wf_X12_474 (wg_da dt_X12_trait 62 rfl) hx0 ?_
  refine wr_iconst (1 : Int32) (wg_da dt_X12_trait 63 rfl) (by decide) ?_
  refine wr_iadd (wg_da dt_X12_trait 64 rfl) ?_
  refine wr_putI wfp_X12_474 (wg_da dt_X12_trait 65 rfl) hx0 h (fun s2 h => ?_)
  refine wr_aload_n (wg_da dt_X12_trait 66 rfl) rfl ?_
  refine wr_getI wf_X12_474 (wg_da dt_X12_trait 67 rfl) hx0 ?_
  exact wr_iret (wg_da dt_X12_trait 68 rfl) h
set_option maxRecDepth 20000 in
theorem g_X12_trait_50 (l : Launch) (E : wg_E)  (x0 : Nat) (x1 : Int32) (x2 : Int32) (x3 : Int32) (t0 : Int32) (t1 : Int32) (t2 : Int32) (t3 : Nat) (σ : wg_M) (z : Int32 × wg_M) (hx0 : wg_t Sm x0 = 14) (ht3 : wg_t Sm t3 = 14) (h : f_X12_trait_50  x0 x1 x2 x3 t0 t1 t2 t3 σ = some z) : wg_G l E Sm "WornWigsModel" cX12_trait 4 (some .int) rm_X12_trait (some z.1) z.2 50 [some (.ref x0), some (.int x1), some (.int x2), some (.int x3)] [.int t0, .int t1, .int t2, .ref t3] σ := by
  refine wr_callVi [.int t2, .int t1, .int t0] [] (wg_da dt_X12_trait 30 rfl) ⟨wq_7_82, wq_7_84, wq_p4_3⟩ ht3 ⟨rfl, by decide⟩ wy_X12_isIn (fun q hq => m_X12_isIn l E t3 t2 t1 t0 ht3 _ q hq) rfl rfl (Nat.le_of_ble_eq_true rfl) ⟨rfl, rfl, by decide, by decide⟩ h (fun v1 s2 h => ?_)
  refine wr_if_eq 65 (wg_da dt_X12_trait 31 rfl) (by decide) h (fun h => ?_) (fun h => ?_)
  · refine wr_iconst (-1 : Int32) (wg_da dt_X12_trait 36 rfl) (by decide) ?_
    exact wr_iret (wg_da dt_X12_trait 37 rfl) h
  · refine wr_aload_n (wg_da dt_X12_trait 32 rfl) rfl ?_
    refine wr_getI wf_X12_474 (wg_da dt_X12_trait 33 rfl) hx0 ?_
    refine wr_bipush (8 : Int32) (wg_da dt_X12_trait 34 rfl) (by decide) ?_
    refine wr_icmp_ne 67 (wg_da dt_X12_trait 35 rfl) (by decide) h (fun h => ?_) (fun h => ?_)
    · refine wr_iconst (-1 : Int32) (wg_da dt_X12_trait 36 rfl) (by decide) ?_
      exact wr_iret (wg_da dt_X12_trait 37 rfl) h
    · refine wr_aload_n (wg_da dt_X12_trait 38 rfl) rfl ?_
      refine wr_getR wf_X12_83 (wg_da dt_X12_trait 39 rfl) hx0 ?_
      refine wr_aload_n (wg_da dt_X12_trait 40 rfl) rfl ?_
      refine wr_getI wf_X12_474 (wg_da dt_X12_trait 41 rfl) hx0 ?_
      refine wr_iload_n (wg_da dt_X12_trait 42 rfl) rfl ?_
      refine wr_iast (wg_da dt_X12_trait 43 rfl) (wg_ty Sm_ok 12 46 0 hx0 rfl (by decide)).2 h (fun s3 h => ?_)
      refine wr_aload_n (wg_da dt_X12_trait 44 rfl) rfl ?_
      refine wr_getR wf_X12_86 (wg_da dt_X12_trait 45 rfl) hx0 ?_
      refine wr_aload_n (wg_da dt_X12_trait 46 rfl) rfl ?_
      refine wr_getI wf_X12_474 (wg_da dt_X12_trait 47 rfl) hx0 ?_
      refine wr_iload_n (wg_da dt_X12_trait 48 rfl) rfl ?_
      refine wr_iast (wg_da dt_X12_trait 49 rfl) (wg_ty Sm_ok 12 47 0 hx0 rfl (by decide)).2 h (fun s4 h => ?_)
      refine wr_aload_n (wg_da dt_X12_trait 50 rfl) rfl ?_
      refine wr_getR wf_X12_89 (wg_da dt_X12_trait 51 rfl) hx0 ?_
      refine wr_aload_n (wg_da dt_X12_trait 52 rfl) rfl ?_
      refine wr_getI wf_X12_474 (wg_da dt_X12_trait 53 rfl) hx0 ?_
      refine wr_iload_n (wg_da dt_X12_trait 54 rfl) rfl ?_
      refine wr_if_eq 103 (wg_da dt_X12_trait 55 rfl) (by decide) h (fun h => ?_) (fun h => ?_)
      · refine wr_iconst (0 : Int32) (wg_da dt_X12_trait 58 rfl) (by decide) ?_
        exact wr_wk [true, false, false, false] (g_X12_trait_104 l E  x0 (0 : Int32) (s4 x0 45) (wg_r Sm x0 48) s4 _ hx0 (wg_ty Sm_ok 12 48 0 hx0 rfl (by decide)).2  h)
      · refine wr_iconst (1 : Int32) (wg_da dt_X12_trait 56 rfl) (by decide) ?_
        refine wr_goto 104 (wg_da dt_X12_trait 57 rfl) (by decide) ?_
        exact wr_wk [true, false, false, false] (g_X12_trait_104 l E  x0 (1 : Int32) (s4 x0 45) (wg_r Sm x0 48) s4 _ hx0 (wg_ty Sm_ok 12 48 0 hx0 rfl (by decide)).2  h)
set_option maxRecDepth 20000 in
theorem g_X12_trait_e (l : Launch) (E : wg_E)  (x0 : Nat) (x1 : Int32) (x2 : Int32) (x3 : Int32) (σ : wg_M) (z : Int32 × wg_M) (hx0 : wg_t Sm x0 = 14) (h : f_X12_trait  x0 x1 x2 x3 σ = some z) : wg_G l E Sm "WornWigsModel" cX12_trait 4 (some .int) rm_X12_trait (some z.1) z.2 0 [some (.ref x0), some (.int x1), some (.int x2), some (.int x3)] [] σ := by
  refine wr_aload_n (wg_da dt_X12_trait 0 rfl) rfl ?_
  refine wr_iconst (0 : Int32) (wg_da dt_X12_trait 1 rfl) (by decide) ?_
  refine wr_putI wfp_X12_113 (wg_da dt_X12_trait 2 rfl) hx0 h (fun s1 h => ?_)
  refine wr_iload_n (wg_da dt_X12_trait 3 rfl) rfl ?_
  refine wr_iconst (-1 : Int32) (wg_da dt_X12_trait 4 rfl) (by decide) ?_
  refine wr_icmp_ne 17 (wg_da dt_X12_trait 5 rfl) (by decide) h (fun h => ?_) (fun h => ?_)
  · refine wr_aload_n (wg_da dt_X12_trait 6 rfl) rfl ?_
    refine wr_iconst (0 : Int32) (wg_da dt_X12_trait 7 rfl) (by decide) ?_
    refine wr_putI wfp_X12_474 (wg_da dt_X12_trait 8 rfl) hx0 h (fun s4 h => ?_)
    refine wr_iconst (0 : Int32) (wg_da dt_X12_trait 9 rfl) (by decide) ?_
    exact wr_iret (wg_da dt_X12_trait 10 rfl) h
  · refine wr_aload_n (wg_da dt_X12_trait 11 rfl) rfl ?_
    refine wr_iload_n (wg_da dt_X12_trait 12 rfl) rfl ?_
    refine wr_iconst (0 : Int32) (wg_da dt_X12_trait 13 rfl) (by decide) ?_
    refine wr_iconst (3 : Int32) (wg_da dt_X12_trait 14 rfl) (by decide) ?_
    refine wr_callVi [.int x1, .int (0 : Int32), .int (3 : Int32)] [] (wg_da dt_X12_trait 15 rfl) ⟨wq_7_82, wq_7_84, wq_p4_3⟩ hx0 ⟨rfl, by decide⟩ wy_X12_isIn (fun q hq => m_X12_isIn l E x0 x1 (0 : Int32) (3 : Int32) hx0 _ q hq) rfl rfl (Nat.le_of_ble_eq_true rfl) ⟨rfl, rfl, by decide, by decide⟩ h (fun v2 s3 h => ?_)
    refine wr_if_eq 65 (wg_da dt_X12_trait 16 rfl) (by decide) h (fun h => ?_) (fun h => ?_)
    · refine wr_iconst (-1 : Int32) (wg_da dt_X12_trait 36 rfl) (by decide) ?_
      exact wr_iret (wg_da dt_X12_trait 37 rfl) h
    · refine wr_aload_n (wg_da dt_X12_trait 17 rfl) rfl ?_
      refine wr_iload_n (wg_da dt_X12_trait 18 rfl) rfl ?_
      refine wr_iconst (0 : Int32) (wg_da dt_X12_trait 19 rfl) (by decide) ?_
      refine wr_iload_n (wg_da dt_X12_trait 20 rfl) rfl ?_
      refine wr_if_ne 38 (wg_da dt_X12_trait 21 rfl) (by decide) h (fun h => ?_) (fun h => ?_)
      · refine wr_iconst (2 : Int32) (wg_da dt_X12_trait 22 rfl) (by decide) ?_
        refine wr_goto 50 (wg_da dt_X12_trait 23 rfl) (by decide) ?_
        exact wr_wk [true, true, true, true] (g_X12_trait_50 l E  x0 x1 x2 x3 (2 : Int32) (0 : Int32) x2 x0 s3 _ hx0 hx0  h)
      · refine wr_iload_n (wg_da dt_X12_trait 24 rfl) rfl ?_
        refine wr_iconst (2 : Int32) (wg_da dt_X12_trait 25 rfl) (by decide) ?_
        refine wr_icmp_ne 48 (wg_da dt_X12_trait 26 rfl) (by decide) h (fun h => ?_) (fun h => ?_)
        · refine wr_bipush (7 : Int32) (wg_da dt_X12_trait 27 rfl) (by decide) ?_
          refine wr_goto 50 (wg_da dt_X12_trait 28 rfl) (by decide) ?_
          exact wr_wk [true, true, true, true] (g_X12_trait_50 l E  x0 x1 x2 x3 (7 : Int32) (0 : Int32) x2 x0 s3 _ hx0 hx0  h)
        · refine wr_bipush (99 : Int32) (wg_da dt_X12_trait 29 rfl) (by decide) ?_
          exact wr_wk [true, true, true, true] (g_X12_trait_50 l E  x0 x1 x2 x3 (99 : Int32) (0 : Int32) x2 x0 s3 _ hx0 hx0  h)
theorem m_X12_trait (l : Launch) (E : wg_E) (x0 : Nat) (x1 : Int32) (x2 : Int32) (x3 : Int32) (hx0 : wg_t Sm x0 = 14) (σ : wg_M) (q : Int32 × wg_M) (h : f_X12_trait x0 x1 x2 x3 σ = some q) : wg_MG l E Sm yX12_trait cX12_trait 4 (some .int) rm_X12_trait [.ref x0, .int x1, .int x2, .int x3] σ (some q.1) q.2 :=
  wg_met [.ref x0, .int x1, .int x2, .int x3] (plainFor_of_name (by decide)) (Nat.le_of_ble_eq_true rfl) (g_X12_trait_e l E x0 x1 x2 x3 σ q hx0 h)
abbrev rm_X12_hasTrait : Room := { frames := 2, cells := 0, slots := 0, locals := 46 }
def tb_X12_hasTrait : List (Nat × Instr × Nat) := [(0, .iload_n 2, 1), (1, .ifCond .ne 19, 3), (4, .aload_n 0, 1), (5, .getfield 19, 3), (8, .iload_n 1, 1), (9, .iaload, 1), (10, .iload_n 3, 1), (11, .if_icmp .ne 7, 3), (14, .iconst 1, 1), (15, .goto 4, 3), (18, .iconst 0, 1), (19, .ireturn, 1), (20, .iload_n 2, 1), (21, .iconst 1, 1), (22, .if_icmp .ne 22, 3), (25, .aload_n 0, 1), (26, .getfield 7, 3), (29, .bipush 43, 2), (31, .iload_n 1, 1), (32, .iadd, 1), (33, .iaload, 1), (34, .iload_n 3, 1), (35, .if_icmp .lt 7, 3), (38, .iconst 1, 1), (39, .goto 4, 3), (42, .iconst 0, 1), (43, .ireturn, 1), (44, .iload_n 2, 1), (45, .iconst 2, 1), (46, .if_icmp .ne 20, 3), (49, .aload_n 0, 1), (50, .iload_n 1, 1), (51, .iload_n 3, 1), (52, .invokevirtual 383, 3), (55, .ifCond .le 7, 3), (58, .iconst 1, 1), (59, .goto 25, 3), (62, .iconst 0, 1), (63, .goto 21, 3), (66, .aload_n 0, 1), (67, .getfield 7, 3), (70, .bipush 59, 2), (72, .iload_n 1, 1), (73, .iadd, 1), (74, .iaload, 1), (75, .iload_n 3, 1), (76, .if_icmp .lt 7, 3), (79, .iconst 1, 1), (80, .goto 4, 3), (83, .iconst 0, 1), (84, .ireturn, 1)]
theorem dt_X12_hasTrait : wg_dc cX12_hasTrait tb_X12_hasTrait := by unfold wg_dc; decide +kernel
def f_X12_hasTrait  (x0 : Nat) (x1 : Int32) (x2 : Int32) (x3 : Int32) (σ : wg_M) : Option (Int32 × wg_M) := if x2 = 0 then (wg_ga (wg_n Sm (wg_r Sm x0 9)) (σ (wg_r Sm x0 9)) x1 (fun v5 => if v5 = x3 then (some ((1 : Int32), σ)) else (some ((0 : Int32), σ)))) else (if x2 = (1 : Int32) then (wg_ga (wg_n Sm (wg_r Sm x0 1)) (σ (wg_r Sm x0 1)) ((43 : Int32) + x1) (fun v4 => if v4 < x3 then (some ((0 : Int32), σ)) else (some ((1 : Int32), σ)))) else (if x2 = (2 : Int32) then (wg_bd (f_X12_rulesFor x0 x1 x3 σ) (fun v2 s3 => if v2 ≤ 0 then (some ((0 : Int32), s3)) else (some ((1 : Int32), s3)))) else (wg_ga (wg_n Sm (wg_r Sm x0 1)) (σ (wg_r Sm x0 1)) ((59 : Int32) + x1) (fun v1 => if v1 < x3 then (some ((0 : Int32), σ)) else (some ((1 : Int32), σ))))))
set_option maxRecDepth 20000 in
theorem g_X12_hasTrait_e (l : Launch) (E : wg_E)  (x0 : Nat) (x1 : Int32) (x2 : Int32) (x3 : Int32) (σ : wg_M) (z : Int32 × wg_M) (hx0 : wg_t Sm x0 = 14) (h : f_X12_hasTrait  x0 x1 x2 x3 σ = some z) : wg_G l E Sm "WornWigsModel" cX12_hasTrait 4 (some .boolean) rm_X12_hasTrait (some z.1) z.2 0 [some (.ref x0), some (.int x1), some (.int x2), some (.int x3)] [] σ := by
  refine wr_iload_n (wg_da dt_X12_hasTrait 0 rfl) rfl ?_
  refine wr_if_ne 20 (wg_da dt_X12_hasTrait 1 rfl) (by decide) h (fun h => ?_) (fun h => ?_)
  · refine wr_aload_n (wg_da dt_X12_hasTrait 2 rfl) rfl ?_
    refine wr_getR wf_X12_19 (wg_da dt_X12_hasTrait 3 rfl) hx0 ?_
    refine wr_iload_n (wg_da dt_X12_hasTrait 4 rfl) rfl ?_
    refine wr_iald (wg_da dt_X12_hasTrait 5 rfl) (wg_ty Sm_ok 12 9 0 hx0 rfl (by decide)).2 h (fun v5 h => ?_)
    refine wr_iload_n (wg_da dt_X12_hasTrait 6 rfl) rfl ?_
    refine wr_icmp_ne 18 (wg_da dt_X12_hasTrait 7 rfl) (by decide) h (fun h => ?_) (fun h => ?_)
    · refine wr_iconst (1 : Int32) (wg_da dt_X12_hasTrait 8 rfl) (by decide) ?_
      refine wr_goto 19 (wg_da dt_X12_hasTrait 9 rfl) (by decide) ?_
      exact wr_zret1 (wg_da dt_X12_hasTrait 11 rfl) h
    · refine wr_iconst (0 : Int32) (wg_da dt_X12_hasTrait 10 rfl) (by decide) ?_
      exact wr_zret0 (wg_da dt_X12_hasTrait 11 rfl) h
  · refine wr_iload_n (wg_da dt_X12_hasTrait 12 rfl) rfl ?_
    refine wr_iconst (1 : Int32) (wg_da dt_X12_hasTrait 13 rfl) (by decide) ?_
    refine wr_icmp_ne 44 (wg_da dt_X12_hasTrait 14 rfl) (by decide) h (fun h => ?_) (fun h => ?_)
    · refine wr_aload_n (wg_da dt_X12_hasTrait 15 rfl) rfl ?_
      refine wr_getR wf_X12_7 (wg_da dt_X12_hasTrait 16 rfl) hx0 ?_
      refine wr_bipush (43 : Int32) (wg_da dt_X12_hasTrait 17 rfl) (by decide) ?_
      refine wr_iload_n (wg_da dt_X12_hasTrait 18 rfl) rfl ?_
      refine wr_iadd (wg_da dt_X12_hasTrait 19 rfl) ?_
      refine wr_iald (wg_da dt_X12_hasTrait 20 rfl) (wg_ty Sm_ok 12 1 0 hx0 rfl (by decide)).2 h (fun v4 h => ?_)
      refine wr_iload_n (wg_da dt_X12_hasTrait 21 rfl) rfl ?_
      refine wr_icmp_lt 42 (wg_da dt_X12_hasTrait 22 rfl) (by decide) h (fun h => ?_) (fun h => ?_)
      · refine wr_iconst (0 : Int32) (wg_da dt_X12_hasTrait 25 rfl) (by decide) ?_
        exact wr_zret0 (wg_da dt_X12_hasTrait 26 rfl) h
      · refine wr_iconst (1 : Int32) (wg_da dt_X12_hasTrait 23 rfl) (by decide) ?_
        refine wr_goto 43 (wg_da dt_X12_hasTrait 24 rfl) (by decide) ?_
        exact wr_zret1 (wg_da dt_X12_hasTrait 26 rfl) h
    · refine wr_iload_n (wg_da dt_X12_hasTrait 27 rfl) rfl ?_
      refine wr_iconst (2 : Int32) (wg_da dt_X12_hasTrait 28 rfl) (by decide) ?_
      refine wr_icmp_ne 66 (wg_da dt_X12_hasTrait 29 rfl) (by decide) h (fun h => ?_) (fun h => ?_)
      · refine wr_aload_n (wg_da dt_X12_hasTrait 30 rfl) rfl ?_
        refine wr_iload_n (wg_da dt_X12_hasTrait 31 rfl) rfl ?_
        refine wr_iload_n (wg_da dt_X12_hasTrait 32 rfl) rfl ?_
        refine wr_callVi [.int x1, .int x3] [] (wg_da dt_X12_hasTrait 33 rfl) ⟨wq_8_142, wq_8_144, wq_p8_4⟩ hx0 ⟨rfl, by decide⟩ wy_X12_rulesFor (fun q hq => m_X12_rulesFor l E x0 x1 x3 hx0 _ q hq) rfl rfl (Nat.le_of_ble_eq_true rfl) ⟨rfl, rfl, by decide, by decide⟩ h (fun v2 s3 h => ?_)
        refine wr_if_le 62 (wg_da dt_X12_hasTrait 34 rfl) (by decide) h (fun h => ?_) (fun h => ?_)
        · refine wr_iconst (0 : Int32) (wg_da dt_X12_hasTrait 37 rfl) (by decide) ?_
          refine wr_goto 84 (wg_da dt_X12_hasTrait 38 rfl) (by decide) ?_
          exact wr_zret0 (wg_da dt_X12_hasTrait 50 rfl) h
        · refine wr_iconst (1 : Int32) (wg_da dt_X12_hasTrait 35 rfl) (by decide) ?_
          refine wr_goto 84 (wg_da dt_X12_hasTrait 36 rfl) (by decide) ?_
          exact wr_zret1 (wg_da dt_X12_hasTrait 50 rfl) h
      · refine wr_aload_n (wg_da dt_X12_hasTrait 39 rfl) rfl ?_
        refine wr_getR wf_X12_7 (wg_da dt_X12_hasTrait 40 rfl) hx0 ?_
        refine wr_bipush (59 : Int32) (wg_da dt_X12_hasTrait 41 rfl) (by decide) ?_
        refine wr_iload_n (wg_da dt_X12_hasTrait 42 rfl) rfl ?_
        refine wr_iadd (wg_da dt_X12_hasTrait 43 rfl) ?_
        refine wr_iald (wg_da dt_X12_hasTrait 44 rfl) (wg_ty Sm_ok 12 1 0 hx0 rfl (by decide)).2 h (fun v1 h => ?_)
        refine wr_iload_n (wg_da dt_X12_hasTrait 45 rfl) rfl ?_
        refine wr_icmp_lt 83 (wg_da dt_X12_hasTrait 46 rfl) (by decide) h (fun h => ?_) (fun h => ?_)
        · refine wr_iconst (0 : Int32) (wg_da dt_X12_hasTrait 49 rfl) (by decide) ?_
          exact wr_zret0 (wg_da dt_X12_hasTrait 50 rfl) h
        · refine wr_iconst (1 : Int32) (wg_da dt_X12_hasTrait 47 rfl) (by decide) ?_
          refine wr_goto 84 (wg_da dt_X12_hasTrait 48 rfl) (by decide) ?_
          exact wr_zret1 (wg_da dt_X12_hasTrait 50 rfl) h
theorem m_X12_hasTrait (l : Launch) (E : wg_E) (x0 : Nat) (x1 : Int32) (x2 : Int32) (x3 : Int32) (hx0 : wg_t Sm x0 = 14) (σ : wg_M) (q : Int32 × wg_M) (h : f_X12_hasTrait x0 x1 x2 x3 σ = some q) : wg_MG l E Sm yX12_hasTrait cX12_hasTrait 4 (some .boolean) rm_X12_hasTrait [.ref x0, .int x1, .int x2, .int x3] σ (some q.1) q.2 :=
  wg_met [.ref x0, .int x1, .int x2, .int x3] (plainFor_of_name (by decide)) (Nat.le_of_ble_eq_true rfl) (g_X12_hasTrait_e l E x0 x1 x2 x3 σ q hx0 h)
abbrev rm_X12_whoseSet : Room := { frames := 3, cells := 0, slots := 0, locals := 69 }
def tb_X12_whoseSet : List (Nat × Instr × Nat) := [(0, .iconst 0, 1), (1, .istore_n 1, 1), (2, .iconst 0, 1), (3, .istore_n 2, 1), (4, .iload_n 2, 1), (5, .aload_n 0, 1), (6, .getfield 125, 3), (9, .if_icmp .ge 79, 3), (12, .iconst 1, 1), (13, .istore_n 3, 1), (14, .iconst 0, 1), (15, .istore 4, 2), (17, .iload 4, 2), (19, .aload_n 0, 1), (20, .getfield 474, 3), (23, .if_icmp .ge 49, 3), (26, .aload_n 0, 1), (27, .iload_n 2, 1), (28, .aload_n 0, 1), (29, .getfield 83, 3), (32, .iload 4, 2), (34, .iaload, 1), (35, .aload_n 0, 1), (36, .getfield 86, 3), (39, .iload 4, 2), (41, .iaload, 1), (42, .invokevirtual 477, 3), (45, .aload_n 0, 1), (46, .getfield 89, 3), (49, .iload 4, 2), (51, .iaload, 1), (52, .iconst 1, 1), (53, .if_icmp .ne 7, 3), (56, .iconst 1, 1), (57, .goto 4, 3), (60, .iconst 0, 1), (61, .if_icmp .eq 5, 3), (64, .iconst 0, 1), (65, .istore_n 3, 1), (66, .iinc 4 1, 3), (69, .goto (-52), 3), (72, .iload_n 3, 1), (73, .ifCond .eq 9, 3), (76, .iload_n 1, 1), (77, .iconst 1, 1), (78, .iload_n 2, 1), (79, .ishl, 1), (80, .ior, 1), (81, .istore_n 1, 1), (82, .iinc 2 1, 3), (85, .goto (-81), 3), (88, .iload_n 1, 1), (89, .ireturn, 1)]
theorem dt_X12_whoseSet : wg_dc cX12_whoseSet tb_X12_whoseSet := by unfold wg_dc; decide +kernel
def f_X12_whoseSet_82 (k4 : Nat → Int32 → Int32 → wg_M → Option (Int32 × wg_M)) (x0 : Nat) (x1 : Int32) (x2 : Int32) (σ : wg_M) : Option (Int32 × wg_M) := wg_let (x2 + (1 : Int32)) (fun v1 => k4 x0 x1 v1 σ)
def f_X12_whoseSet_66 (k17 : Nat → Int32 → Int32 → Int32 → Int32 → wg_M → Option (Int32 × wg_M)) (x0 : Nat) (x1 : Int32) (x2 : Int32) (x3 : Int32) (x4 : Int32) (σ : wg_M) : Option (Int32 × wg_M) := wg_let (x4 + (1 : Int32)) (fun v1 => k17 x0 x1 x2 x3 v1 σ)
def f_X12_whoseSet_61 (k17 : Nat → Int32 → Int32 → Int32 → Int32 → wg_M → Option (Int32 × wg_M)) (x0 : Nat) (x1 : Int32) (x2 : Int32) (x3 : Int32) (x4 : Int32) (t0 : Int32) (t1 : Int32) (σ : wg_M) : Option (Int32 × wg_M) := if t1 = t0 then (f_X12_whoseSet_66 k17 x0 x1 x2 x3 x4 σ) else (f_X12_whoseSet_66 k17 x0 x1 x2 (0 : Int32) x4 σ)
def f_X12_whoseSet_17 (k4 : Nat → Int32 → Int32 → wg_M → Option (Int32 × wg_M)) : Nat → Nat → Int32 → Int32 → Int32 → Int32 → wg_M → Option (Int32 × wg_M)
  | 0, _, _, _, _, _, _ => none
  | n + 1, x0, x1, x2, x3, x4, σ => if (σ x0 45) ≤ x4 then (if x3 = 0 then (f_X12_whoseSet_82 k4 x0 x1 x2 σ) else (wg_let (x1 ||| ((1 : Int32) <<< (x2 &&& 31))) (fun v1 => f_X12_whoseSet_82 k4 x0 v1 x2 σ))) else (wg_ga (wg_n Sm (wg_r Sm x0 46)) (σ (wg_r Sm x0 46)) x4 (fun v2 => wg_ga (wg_n Sm (wg_r Sm x0 47)) (σ (wg_r Sm x0 47)) x4 (fun v3 => wg_bd (f_X12_hasTrait x0 x2 v2 v3 σ) (fun v4 s5 => wg_ga (wg_n Sm (wg_r Sm x0 48)) (s5 (wg_r Sm x0 48)) x4 (fun v6 => if v6 = (1 : Int32) then (f_X12_whoseSet_61 (f_X12_whoseSet_17 k4 n) x0 x1 x2 x3 x4 (1 : Int32) v4 s5) else (f_X12_whoseSet_61 (f_X12_whoseSet_17 k4 n) x0 x1 x2 x3 x4 (0 : Int32) v4 s5))))))
def f_X12_whoseSet_4  : Nat → Nat → Int32 → Int32 → wg_M → Option (Int32 × wg_M)
  | 0, _, _, _, _ => none
  | n + 1, x0, x1, x2, σ => if (σ x0 6) ≤ x2 then (some (x1, σ)) else (f_X12_whoseSet_17 (f_X12_whoseSet_4  n) wg_N x0 x1 x2 (1 : Int32) (0 : Int32) σ)
def f_X12_whoseSet  (x0 : Nat) (σ : wg_M) : Option (Int32 × wg_M) := f_X12_whoseSet_4  wg_N x0 (0 : Int32) (0 : Int32) σ
set_option maxRecDepth 20000 in
theorem g_X12_whoseSet_82 (l : Launch) (E : wg_E) (k4 : Nat → Int32 → Int32 → wg_M → Option (Int32 × wg_M)) (x0 : Nat) (x1 : Int32) (x2 : Int32) (σ : wg_M) (z : Int32 × wg_M) (hx0 : wg_t Sm x0 = 14) (hk4 : ∀ (x0 : Nat) (x1 : Int32) (x2 : Int32) (σ : wg_M), wg_t Sm x0 = 14 → k4 x0 x1 x2 σ = some z → wg_G l E Sm "WornWigsModel" cX12_whoseSet 5 (some .int) rm_X12_whoseSet (some z.1) z.2 4 [some (.ref x0), some (.int x1), some (.int x2), none, none] [] σ) (h : f_X12_whoseSet_82 k4 x0 x1 x2 σ = some z) : wg_G l E Sm "WornWigsModel" cX12_whoseSet 5 (some .int) rm_X12_whoseSet (some z.1) z.2 82 [some (.ref x0), some (.int x1), some (.int x2), none, none] [] σ := by
  refine wr_iinc (c0 := (1 : Int32)) (wg_da dt_X12_whoseSet 49 rfl) rfl (by decide) (by decide) h (fun v1 h => ?_)
  refine wr_goto 4 (wg_da dt_X12_whoseSet 50 rfl) (by decide) ?_
  exact wr_wk [true, true, true, false, false] (hk4 x0 x1 v1 σ hx0 h)
set_option maxRecDepth 20000 in
theorem g_X12_whoseSet_66 (l : Launch) (E : wg_E) (k17 : Nat → Int32 → Int32 → Int32 → Int32 → wg_M → Option (Int32 × wg_M)) (x0 : Nat) (x1 : Int32) (x2 : Int32) (x3 : Int32) (x4 : Int32) (σ : wg_M) (z : Int32 × wg_M) (hx0 : wg_t Sm x0 = 14) (hk17 : ∀ (x0 : Nat) (x1 : Int32) (x2 : Int32) (x3 : Int32) (x4 : Int32) (σ : wg_M), wg_t Sm x0 = 14 → k17 x0 x1 x2 x3 x4 σ = some z → wg_G l E Sm "WornWigsModel" cX12_whoseSet 5 (some .int) rm_X12_whoseSet (some z.1) z.2 17 [some (.ref x0), some (.int x1), some (.int x2), some (.int x3), some (.int x4)] [] σ) (h : f_X12_whoseSet_66 k17 x0 x1 x2 x3 x4 σ = some z) : wg_G l E Sm "WornWigsModel" cX12_whoseSet 5 (some .int) rm_X12_whoseSet (some z.1) z.2 66 [some (.ref x0), some (.int x1), some (.int x2), some (.int x3), some (.int x4)] [] σ := by
  refine wr_iinc (c0 := (1 : Int32)) (wg_da dt_X12_whoseSet 39 rfl) rfl (by decide) (by decide) h (fun v1 h => ?_)
  refine wr_goto 17 (wg_da dt_X12_whoseSet 40 rfl) (by decide) ?_
  exact wr_wk [true, true, true, true, true] (hk17 x0 x1 x2 x3 v1 σ hx0 h)
set_option maxRecDepth 20000 in
theorem g_X12_whoseSet_61 (l : Launch) (E : wg_E) (k17 : Nat → Int32 → Int32 → Int32 → Int32 → wg_M → Option (Int32 × wg_M)) (x0 : Nat) (x1 : Int32) (x2 : Int32) (x3 : Int32) (x4 : Int32) (t0 : Int32) (t1 : Int32) (σ : wg_M) (z : Int32 × wg_M) (hx0 : wg_t Sm x0 = 14) (hk17 : ∀ (x0 : Nat) (x1 : Int32) (x2 : Int32) (x3 : Int32) (x4 : Int32) (σ : wg_M), wg_t Sm x0 = 14 → k17 x0 x1 x2 x3 x4 σ = some z → wg_G l E Sm "WornWigsModel" cX12_whoseSet 5 (some .int) rm_X12_whoseSet (some z.1) z.2 17 [some (.ref x0), some (.int x1), some (.int x2), some (.int x3), some (.int x4)] [] σ) (h : f_X12_whoseSet_61 k17 x0 x1 x2 x3 x4 t0 t1 σ = some z) : wg_G l E Sm "WornWigsModel" cX12_whoseSet 5 (some .int) rm_X12_whoseSet (some z.1) z.2 61 [some (.ref x0), some (.int x1), some (.int x2), some (.int x3), some (.int x4)] [.int t0, .int t1] σ := by
  refine wr_icmp_eq 66 (wg_da dt_X12_whoseSet 36 rfl) (by decide) h (fun h => ?_) (fun h => ?_)
  · exact wr_wk [true, true, true, true, true] (g_X12_whoseSet_66 l E k17 x0 x1 x2 x3 x4 σ _ hx0 hk17 h)
  · refine wr_iconst (0 : Int32) (wg_da dt_X12_whoseSet 37 rfl) (by decide) ?_
    refine wr_istore_n (wg_da dt_X12_whoseSet 38 rfl) (by decide) ?_
    exact wr_wk [true, true, true, true, true] (g_X12_whoseSet_66 l E k17 x0 x1 x2 (0 : Int32) x4 σ _ hx0 hk17 h)
set_option maxRecDepth 20000 in
theorem g_X12_whoseSet_17 (l : Launch) (E : wg_E) (k4 : Nat → Int32 → Int32 → wg_M → Option (Int32 × wg_M)) (z : Int32 × wg_M) (hk4 : ∀ (x0 : Nat) (x1 : Int32) (x2 : Int32) (σ : wg_M), wg_t Sm x0 = 14 → k4 x0 x1 x2 σ = some z → wg_G l E Sm "WornWigsModel" cX12_whoseSet 5 (some .int) rm_X12_whoseSet (some z.1) z.2 4 [some (.ref x0), some (.int x1), some (.int x2), none, none] [] σ) : ∀ (n : Nat) (x0 : Nat) (x1 : Int32) (x2 : Int32) (x3 : Int32) (x4 : Int32) (σ : wg_M) (hx0 : wg_t Sm x0 = 14) (h : f_X12_whoseSet_17 k4 n x0 x1 x2 x3 x4 σ = some z), wg_G l E Sm "WornWigsModel" cX12_whoseSet 5 (some .int) rm_X12_whoseSet (some z.1) z.2 17 [some (.ref x0), some (.int x1), some (.int x2), some (.int x3), some (.int x4)] [] σ := by
  intro n
  induction n with
  | zero => intro x0 x1 x2 x3 x4 σ hx0 h; cases h
  | succ n ih =>
    intro x0 x1 x2 x3 x4 σ hx0 h
    refine wr_iload (wg_da dt_X12_whoseSet 12 rfl) rfl ?_
    refine wr_aload_n (wg_da dt_X12_whoseSet 13 rfl) rfl ?_
    refine wr_getI wf_X12_474 (wg_da dt_X12_whoseSet 14 rfl) hx0 ?_
    refine wr_icmp_ge 72 (wg_da dt_X12_whoseSet 15 rfl) (by decide) h (fun h => ?_) (fun h => ?_)
    · refine wr_iload_n (wg_da dt_X12_whoseSet 41 rfl) rfl ?_
      refine wr_if_eq 82 (wg_da dt_X12_whoseSet 42 rfl) (by decide) h (fun h => ?_) (fun h => ?_)
      · exact wr_wk [true, true, true, false, false] (g_X12_whoseSet_82 l E k4 x0 x1 x2 σ _ hx0 hk4 h)
      · refine wr_iload_n (wg_da dt_X12_whoseSet 43 rfl) rfl ?_
        refine wr_iconst (1 : Int32) (wg_da dt_X12_whoseSet 44 rfl) (by decide) ?_
        refine wr_iload_n (wg_da dt_X12_whoseSet 45 rfl) rfl ?_
        refine wr_ishl (wg_da dt_X12_whoseSet 46 rfl) ?_
        refine wr_ior (wg_da dt_X12_whoseSet 47 rfl) ?_
        refine wr_let h (fun v1 h => ?_)
        refine wr_istore_n (wg_da dt_X12_whoseSet 48 rfl) (by decide) ?_
        exact wr_wk [true, true, true, false, false] (g_X12_whoseSet_82 l E k4 x0 v1 x2 σ _ hx0 hk4 h)
    · refine wr_aload_n (wg_da dt_X12_whoseSet 16 rfl) rfl ?_
      refine wr_iload_n (wg_da dt_X12_whoseSet 17 rfl) rfl ?_
      refine wr_aload_n (wg_da dt_X12_whoseSet 18 rfl) rfl ?_
      refine wr_getR wf_X12_83 (wg_da dt_X12_whoseSet 19 rfl) hx0 ?_
      refine wr_iload (wg_da dt_X12_whoseSet 20 rfl) rfl ?_
      refine wr_iald (wg_da dt_X12_whoseSet 21 rfl) (wg_ty Sm_ok 12 46 0 hx0 rfl (by decide)).2 h (fun v2 h => ?_)
      refine wr_aload_n (wg_da dt_X12_whoseSet 22 rfl) rfl ?_
      refine wr_getR wf_X12_86 (wg_da dt_X12_whoseSet 23 rfl) hx0 ?_
      refine wr_iload (wg_da dt_X12_whoseSet 24 rfl) rfl ?_
      refine wr_iald (wg_da dt_X12_whoseSet 25 rfl) (wg_ty Sm_ok 12 47 0 hx0 rfl (by decide)).2 h (fun v3 h => ?_)
      refine wr_callVi [.int x2, .int v2, .int v3] [] (wg_da dt_X12_whoseSet 26 rfl) ⟨wq_9_93, wq_9_95, wq_p10_2⟩ hx0 ⟨rfl, by decide⟩ wy_X12_hasTrait (fun q hq => m_X12_hasTrait l E x0 x2 v2 v3 hx0 _ q hq) rfl rfl (Nat.le_of_ble_eq_true rfl) ⟨rfl, rfl, by decide, by decide⟩ h (fun v4 s5 h => ?_)
      refine wr_aload_n (wg_da dt_X12_whoseSet 27 rfl) rfl ?_
      refine wr_getR wf_X12_89 (wg_da dt_X12_whoseSet 28 rfl) hx0 ?_
      refine wr_iload (wg_da dt_X12_whoseSet 29 rfl) rfl ?_
      refine wr_iald (wg_da dt_X12_whoseSet 30 rfl) (wg_ty Sm_ok 12 48 0 hx0 rfl (by decide)).2 h (fun v6 h => ?_)
      refine wr_iconst (1 : Int32) (wg_da dt_X12_whoseSet 31 rfl) (by decide) ?_
      refine wr_icmp_ne 60 (wg_da dt_X12_whoseSet 32 rfl) (by decide) h (fun h => ?_) (fun h => ?_)
      · refine wr_iconst (1 : Int32) (wg_da dt_X12_whoseSet 33 rfl) (by decide) ?_
        refine wr_goto 61 (wg_da dt_X12_whoseSet 34 rfl) (by decide) ?_
        exact wr_wk [true, true, true, true, true] (g_X12_whoseSet_61 l E (f_X12_whoseSet_17 k4 n) x0 x1 x2 x3 x4 (1 : Int32) v4 s5 _ hx0 (fun x0 x1 x2 x3 x4 σ hx0 h => ih x0 x1 x2 x3 x4 σ hx0 h) h)
      · refine wr_iconst (0 : Int32) (wg_da dt_X12_whoseSet 35 rfl) (by decide) ?_
        exact wr_wk [true, true, true, true, true] (g_X12_whoseSet_61 l E (f_X12_whoseSet_17 k4 n) x0 x1 x2 x3 x4 (0 : Int32) v4 s5 _ hx0 (fun x0 x1 x2 x3 x4 σ hx0 h => ih x0 x1 x2 x3 x4 σ hx0 h) h)
set_option maxRecDepth 20000 in
theorem g_X12_whoseSet_4 (l : Launch) (E : wg_E)  (z : Int32 × wg_M) : ∀ (n : Nat) (x0 : Nat) (x1 : Int32) (x2 : Int32) (σ : wg_M) (hx0 : wg_t Sm x0 = 14) (h : f_X12_whoseSet_4  n x0 x1 x2 σ = some z), wg_G l E Sm "WornWigsModel" cX12_whoseSet 5 (some .int) rm_X12_whoseSet (some z.1) z.2 4 [some (.ref x0), some (.int x1), some (.int x2), none, none] [] σ := by
  intro n
  induction n with
  | zero => intro x0 x1 x2 σ hx0 h; cases h
  | succ n ih =>
    intro x0 x1 x2 σ hx0 h
    refine wr_iload_n (wg_da dt_X12_whoseSet 4 rfl) rfl ?_
    refine wr_aload_n (wg_da dt_X12_whoseSet 5 rfl) rfl ?_
    refine wr_getI wf_X12_125 (wg_da dt_X12_whoseSet 6 rfl) hx0 ?_
    refine wr_icmp_ge 88 (wg_da dt_X12_whoseSet 7 rfl) (by decide) h (fun h => ?_) (fun h => ?_)
    · refine wr_iload_n (wg_da dt_X12_whoseSet 51 rfl) rfl ?_
      exact wr_iret (wg_da dt_X12_whoseSet 52 rfl) h
    · refine wr_iconst (1 : Int32) (wg_da dt_X12_whoseSet 8 rfl) (by decide) ?_
      refine wr_istore_n (wg_da dt_X12_whoseSet 9 rfl) (by decide) ?_
      refine wr_iconst (0 : Int32) (wg_da dt_X12_whoseSet 10 rfl) (by decide) ?_
      refine wr_istore (wg_da dt_X12_whoseSet 11 rfl) (by decide) ?_
      exact wr_wk [true, true, true, true, true] (g_X12_whoseSet_17 l E (f_X12_whoseSet_4  n) _ (fun x0 x1 x2 σ hx0 h => ih x0 x1 x2 σ hx0 h) wg_N x0 x1 x2 (1 : Int32) (0 : Int32) σ hx0 h)
set_option maxRecDepth 20000 in
theorem g_X12_whoseSet_e (l : Launch) (E : wg_E)  (x0 : Nat) (σ : wg_M) (z : Int32 × wg_M) (hx0 : wg_t Sm x0 = 14) (h : f_X12_whoseSet  x0 σ = some z) : wg_G l E Sm "WornWigsModel" cX12_whoseSet 5 (some .int) rm_X12_whoseSet (some z.1) z.2 0 [some (.ref x0), none, none, none, none] [] σ := by
  refine wr_iconst (0 : Int32) (wg_da dt_X12_whoseSet 0 rfl) (by decide) ?_
  refine wr_istore_n (wg_da dt_X12_whoseSet 1 rfl) (by decide) ?_
  refine wr_iconst (0 : Int32) (wg_da dt_X12_whoseSet 2 rfl) (by decide) ?_
  refine wr_istore_n (wg_da dt_X12_whoseSet 3 rfl) (by decide) ?_
  exact wr_wk [true, true, true, false, false] (g_X12_whoseSet_4 l E  _  wg_N x0 (0 : Int32) (0 : Int32) σ hx0 h)
theorem m_X12_whoseSet (l : Launch) (E : wg_E) (x0 : Nat) (hx0 : wg_t Sm x0 = 14) (σ : wg_M) (q : Int32 × wg_M) (h : f_X12_whoseSet x0 σ = some q) : wg_MG l E Sm yX12_whoseSet cX12_whoseSet 5 (some .int) rm_X12_whoseSet [.ref x0] σ (some q.1) q.2 :=
  wg_met [.ref x0] (plainFor_of_name (by decide)) (Nat.le_of_ble_eq_true rfl) (g_X12_whoseSet_e l E x0 σ q hx0 h)
abbrev rm_X12_whose : Room := { frames := 4, cells := 0, slots := 0, locals := 93 }
def tb_X12_whose : List (Nat × Instr × Nat) := [(0, .aload_n 0, 1), (1, .iconst 0, 1), (2, .putfield 113, 3), (5, .aload_n 0, 1), (6, .iload_n 1, 1), (7, .iconst 0, 1), (8, .iconst 1, 1), (9, .invokevirtual 153, 3), (12, .ifCond .ne 5, 3), (15, .iconst (-1), 1), (16, .ireturn, 1), (17, .aload_n 0, 1), (18, .invokevirtual 480, 3), (21, .istore_n 2, 1), (22, .iload_n 1, 1), (23, .ifCond .ne 5, 3), (26, .iload_n 2, 1), (27, .ireturn, 1), (28, .aload_n 0, 1), (29, .iload_n 2, 1), (30, .invokevirtual 435, 3), (33, .istore_n 3, 1), (34, .iload_n 3, 1), (35, .iconst 2, 1), (36, .if_icmp .ge 5, 3), (39, .iconst (-1), 1), (40, .ireturn, 1), (41, .iconst 0, 1), (42, .istore 4, 2), (44, .ldc_w 483, 3), (47, .istore 5, 2), (49, .iconst 0, 1), (50, .istore 6, 2), (52, .iload 6, 2), (54, .bipush 8, 2), (56, .if_icmp .ge 95, 3), (59, .iconst 0, 1), (60, .istore 7, 2), (62, .iconst 0, 1), (63, .istore 8, 2), (65, .iload 8, 2), (67, .aload_n 0, 1), (68, .getfield 125, 3), (71, .if_icmp .ge 36, 3), (74, .aload_n 0, 1), (75, .iload_n 2, 1), (76, .iload 8, 2), (78, .invokevirtual 441, 3), (81, .ifCond .eq 20, 3), (84, .aload_n 0, 1), (85, .iload 8, 2), (87, .iload 6, 2), (89, .invokevirtual 383, 3), (92, .ifCond .le 9, 3), (95, .iload 7, 2), (97, .iconst 1, 1), (98, .iadd, 1), (99, .istore 7, 2), (101, .iinc 8 1, 3), (104, .goto (-39), 3), (107, .aload_n 0, 1), (108, .iload 7, 2), (110, .iload_n 3, 1), (111, .iload 7, 2), (113, .isub, 1), (114, .invokevirtual 345, 3), (117, .istore 8, 2), (119, .iload 8, 2), (121, .iload 5, 2), (123, .if_icmp .ge 8, 3), (126, .iload 6, 2), (128, .goto 5, 3), (131, .iload 4, 2), (133, .istore 4, 2), (135, .aload_n 0, 1), (136, .iload 5, 2), (138, .iload 8, 2), (140, .invokevirtual 146, 3), (143, .istore 5, 2), (145, .iinc 6 1, 3), (148, .goto (-96), 3), (151, .iload 4, 2), (153, .ireturn, 1)]
theorem dt_X12_whose : wg_dc cX12_whose tb_X12_whose := by unfold wg_dc; decide +kernel
def f_X12_whose_101 (k65 : Nat → Int32 → Int32 → Int32 → Int32 → Int32 → Int32 → Int32 → wg_M → Option (Int32 × wg_M)) (x0 : Nat) (x2 : Int32) (x3 : Int32) (x4 : Int32) (x5 : Int32) (x6 : Int32) (x7 : Int32) (x8 : Int32) (σ : wg_M) : Option (Int32 × wg_M) := wg_let (x8 + (1 : Int32)) (fun v1 => k65 x0 x2 x3 x4 x5 x6 x7 v1 σ)
def f_X12_whose_133 (k52 : Nat → Int32 → Int32 → Int32 → Int32 → Int32 → wg_M → Option (Int32 × wg_M)) (x0 : Nat) (x2 : Int32) (x3 : Int32) (x5 : Int32) (x6 : Int32) (x8 : Int32) (t0 : Int32) (σ : wg_M) : Option (Int32 × wg_M) := wg_bd (f_X12_lesser x0 x5 x8 σ) (fun v1 s2 => wg_let (x6 + (1 : Int32)) (fun v3 => k52 x0 x2 x3 t0 v1 v3 s2))
def f_X12_whose_65 (k52 : Nat → Int32 → Int32 → Int32 → Int32 → Int32 → wg_M → Option (Int32 × wg_M)) : Nat → Nat → Int32 → Int32 → Int32 → Int32 → Int32 → Int32 → Int32 → wg_M → Option (Int32 × wg_M)
  | 0, _, _, _, _, _, _, _, _, _ => none
  | n + 1, x0, x2, x3, x4, x5, x6, x7, x8, σ => if (σ x0 6) ≤ x8 then (wg_bd (f_X12_greater x0 x7 (x3 - x7) σ) (fun v1 s2 => if x5 ≤ v1 then (f_X12_whose_133 k52 x0 x2 x3 x5 x6 v1 x4 s2) else (f_X12_whose_133 k52 x0 x2 x3 x5 x6 v1 x6 s2))) else (wg_bd (f_X12_has x0 x2 x8 σ) (fun v3 s4 => if v3 = 0 then (f_X12_whose_101 (f_X12_whose_65 k52 n) x0 x2 x3 x4 x5 x6 x7 x8 s4) else (wg_bd (f_X12_rulesFor x0 x8 x6 s4) (fun v5 s6 => if v5 ≤ 0 then (f_X12_whose_101 (f_X12_whose_65 k52 n) x0 x2 x3 x4 x5 x6 x7 x8 s6) else (wg_let (x7 + (1 : Int32)) (fun v7 => f_X12_whose_101 (f_X12_whose_65 k52 n) x0 x2 x3 x4 x5 x6 v7 x8 s6))))))
def f_X12_whose_52  : Nat → Nat → Int32 → Int32 → Int32 → Int32 → Int32 → wg_M → Option (Int32 × wg_M)
  | 0, _, _, _, _, _, _, _ => none
  | n + 1, x0, x2, x3, x4, x5, x6, σ => if (8 : Int32) ≤ x6 then (some (x4, σ)) else (f_X12_whose_65 (f_X12_whose_52  n) wg_N x0 x2 x3 x4 x5 x6 (0 : Int32) (0 : Int32) σ)
def f_X12_whose  (x0 : Nat) (x1 : Int32) (σ : wg_M) : Option (Int32 × wg_M) := wg_st σ x0 0 (0 : Int32) (fun s1 => wg_bd (f_X12_isIn x0 x1 (0 : Int32) (1 : Int32) s1) (fun v2 s3 => if v2 = 0 then (some ((-1 : Int32), s3)) else (wg_bd (f_X12_whoseSet x0 s3) (fun v4 s5 => if x1 = 0 then (some (v4, s5)) else (wg_bd (f_X12_onesOf x0 v4 s5) (fun v6 s7 => if (2 : Int32) ≤ v6 then (f_X12_whose_52  wg_N x0 v4 v6 (0 : Int32) (100000000 : Int32) (0 : Int32) s7) else (some ((-1 : Int32), s7))))))))
set_option maxRecDepth 20000 in
theorem g_X12_whose_101 (l : Launch) (E : wg_E) (k65 : Nat → Int32 → Int32 → Int32 → Int32 → Int32 → Int32 → Int32 → wg_M → Option (Int32 × wg_M)) (x0 : Nat) (x2 : Int32) (x3 : Int32) (x4 : Int32) (x5 : Int32) (x6 : Int32) (x7 : Int32) (x8 : Int32) (σ : wg_M) (z : Int32 × wg_M) (hx0 : wg_t Sm x0 = 14) (hk65 : ∀ (x0 : Nat) (x2 : Int32) (x3 : Int32) (x4 : Int32) (x5 : Int32) (x6 : Int32) (x7 : Int32) (x8 : Int32) (σ : wg_M), wg_t Sm x0 = 14 → k65 x0 x2 x3 x4 x5 x6 x7 x8 σ = some z → wg_G l E Sm "WornWigsModel" cX12_whose 9 (some .int) rm_X12_whose (some z.1) z.2 65 [some (.ref x0), none, some (.int x2), some (.int x3), some (.int x4), some (.int x5), some (.int x6), some (.int x7), some (.int x8)] [] σ) (h : f_X12_whose_101 k65 x0 x2 x3 x4 x5 x6 x7 x8 σ = some z) : wg_G l E Sm "WornWigsModel" cX12_whose 9 (some .int) rm_X12_whose (some z.1) z.2 101 [some (.ref x0), none, some (.int x2), some (.int x3), some (.int x4), some (.int x5), some (.int x6), some (.int x7), some (.int x8)] [] σ := by
  refine wr_iinc (c0 := (1 : Int32)) (wg_da dt_X12_whose 58 rfl) rfl (by decide) (by decide) h (fun v1 h => ?_)
  refine wr_goto 65 (wg_da dt_X12_whose 59 rfl) (by decide) ?_
  exact wr_wk [true, false, true, true, true, true, true, true, true] (hk65 x0 x2 x3 x4 x5 x6 x7 v1 σ hx0 h)
set_option maxRecDepth 20000 in
theorem g_X12_whose_133 (l : Launch) (E : wg_E) (k52 : Nat → Int32 → Int32 → Int32 → Int32 → Int32 → wg_M → Option (Int32 × wg_M)) (x0 : Nat) (x2 : Int32) (x3 : Int32) (x5 : Int32) (x6 : Int32) (x8 : Int32) (t0 : Int32) (σ : wg_M) (z : Int32 × wg_M) (hx0 : wg_t Sm x0 = 14) (hk52 : ∀ (x0 : Nat) (x2 : Int32) (x3 : Int32) (x4 : Int32) (x5 : Int32) (x6 : Int32) (σ : wg_M), wg_t Sm x0 = 14 → k52 x0 x2 x3 x4 x5 x6 σ = some z → wg_G l E Sm "WornWigsModel" cX12_whose 9 (some .int) rm_X12_whose (some z.1) z.2 52 [some (.ref x0), none, some (.int x2), some (.int x3), some (.int x4), some (.int x5), some (.int x6), none, none] [] σ) (h : f_X12_whose_133 k52 x0 x2 x3 x5 x6 x8 t0 σ = some z) : wg_G l E Sm "WornWigsModel" cX12_whose 9 (some .int) rm_X12_whose (some z.1) z.2 133 [some (.ref x0), none, some (.int x2), some (.int x3), none, some (.int x5), some (.int x6), none, some (.int x8)] [.int t0] σ := by
  refine wr_istore (wg_da dt_X12_whose 73 rfl) (by decide) ?_
  refine wr_aload_n (wg_da dt_X12_whose 74 rfl) rfl ?_
  refine wr_iload (wg_da dt_X12_whose 75 rfl) rfl ?_
  refine wr_iload (wg_da dt_X12_whose 76 rfl) rfl ?_
  refine wr_callVi [.int x5, .int x8] [] (wg_da dt_X12_whose 77 rfl) ⟨wq_7_118, wq_7_120, wq_p4_9⟩ hx0 ⟨rfl, by decide⟩ wy_X12_lesser (fun q hq => m_X12_lesser l E x0 x5 x8 hx0 _ q hq) rfl rfl (Nat.le_of_ble_eq_true rfl) ⟨rfl, rfl, by decide, by decide⟩ h (fun v1 s2 h => ?_)
  refine wr_istore (wg_da dt_X12_whose 78 rfl) (by decide) ?_
  refine wr_iinc (c0 := (1 : Int32)) (wg_da dt_X12_whose 79 rfl) rfl (by decide) (by decide) h (fun v3 h => ?_)
  refine wr_goto 52 (wg_da dt_X12_whose 80 rfl) (by decide) ?_
  exact wr_wk [true, false, true, true, true, true, true, false, false] (hk52 x0 x2 x3 t0 v1 v3 s2 hx0 h)
set_option maxRecDepth 20000 in
theorem g_X12_whose_65 (l : Launch) (E : wg_E) (k52 : Nat → Int32 → Int32 → Int32 → Int32 → Int32 → wg_M → Option (Int32 × wg_M)) (z : Int32 × wg_M) (hk52 : ∀ (x0 : Nat) (x2 : Int32) (x3 : Int32) (x4 : Int32) (x5 : Int32) (x6 : Int32) (σ : wg_M), wg_t Sm x0 = 14 → k52 x0 x2 x3 x4 x5 x6 σ = some z → wg_G l E Sm "WornWigsModel" cX12_whose 9 (some .int) rm_X12_whose (some z.1) z.2 52 [some (.ref x0), none, some (.int x2), some (.int x3), some (.int x4), some (.int x5), some (.int x6), none, none] [] σ) : ∀ (n : Nat) (x0 : Nat) (x2 : Int32) (x3 : Int32) (x4 : Int32) (x5 : Int32) (x6 : Int32) (x7 : Int32) (x8 : Int32) (σ : wg_M) (hx0 : wg_t Sm x0 = 14) (h : f_X12_whose_65 k52 n x0 x2 x3 x4 x5 x6 x7 x8 σ = some z), wg_G l E Sm "WornWigsModel" cX12_whose 9 (some .int) rm_X12_whose (some z.1) z.2 65 [some (.ref x0), none, some (.int x2), some (.int x3), some (.int x4), some (.int x5), some (.int x6), some (.int x7), some (.int x8)] [] σ := by
  intro n
  induction n with
  | zero => intro x0 x2 x3 x4 x5 x6 x7 x8 σ hx0 h; cases h
  | succ n ih =>
    intro x0 x2 x3 x4 x5 x6 x7 x8 σ hx0 h
    refine wr_iload (wg_da dt_X12_whose 40 rfl) rfl ?_
    refine wr_aload_n (wg_da dt_X12_whose 41 rfl) rfl ?_
    refine wr_getI wf_X12_125 (wg_da dt_X12_whose 42 rfl) hx0 ?_
    refine wr_icmp_ge 107 (wg_da dt_X12_whose 43 rfl) (by decide) h (fun h => ?_) (fun h => ?_)
    · refine wr_aload_n (wg_da dt_X12_whose 60 rfl) rfl ?_
      refine wr_iload (wg_da dt_X12_whose 61 rfl) rfl ?_
      refine wr_iload_n (wg_da dt_X12_whose 62 rfl) rfl ?_
      refine wr_iload (wg_da dt_X12_whose 63 rfl) rfl ?_
      refine wr_isub (wg_da dt_X12_whose 64 rfl) ?_
      refine wr_callVi [.int x7, .int (x3 - x7)] [] (wg_da dt_X12_whose 65 rfl) ⟨wq_8_162, wq_8_164, wq_p8_9⟩ hx0 ⟨rfl, by decide⟩ wy_X12_greater (fun q hq => m_X12_greater l E x0 x7 (x3 - x7) hx0 _ q hq) rfl rfl (Nat.le_of_ble_eq_true rfl) ⟨rfl, rfl, by decide, by decide⟩ h (fun v1 s2 h => ?_)
      refine wr_istore (wg_da dt_X12_whose 66 rfl) (by decide) ?_
      refine wr_iload (wg_da dt_X12_whose 67 rfl) rfl ?_
      refine wr_iload (wg_da dt_X12_whose 68 rfl) rfl ?_
      refine wr_icmp_ge 131 (wg_da dt_X12_whose 69 rfl) (by decide) h (fun h => ?_) (fun h => ?_)
      · refine wr_iload (wg_da dt_X12_whose 72 rfl) rfl ?_
        exact wr_wk [true, false, true, true, false, true, true, false, true] (g_X12_whose_133 l E k52 x0 x2 x3 x5 x6 v1 x4 s2 _ hx0 hk52 h)
      · refine wr_iload (wg_da dt_X12_whose 70 rfl) rfl ?_
        refine wr_goto 133 (wg_da dt_X12_whose 71 rfl) (by decide) ?_
        exact wr_wk [true, false, true, true, false, true, true, false, true] (g_X12_whose_133 l E k52 x0 x2 x3 x5 x6 v1 x6 s2 _ hx0 hk52 h)
    · refine wr_aload_n (wg_da dt_X12_whose 44 rfl) rfl ?_
      refine wr_iload_n (wg_da dt_X12_whose 45 rfl) rfl ?_
      refine wr_iload (wg_da dt_X12_whose 46 rfl) rfl ?_
      refine wr_callVi [.int x2, .int x8] [] (wg_da dt_X12_whose 47 rfl) ⟨wq_9_21, wq_9_23, wq_p9_7⟩ hx0 ⟨rfl, by decide⟩ wy_X12_has (fun q hq => m_X12_has l E x0 x2 x8 hx0 _ q hq) rfl rfl (Nat.le_of_ble_eq_true rfl) ⟨rfl, rfl, by decide, by decide⟩ h (fun v3 s4 h => ?_)
      refine wr_if_eq 101 (wg_da dt_X12_whose 48 rfl) (by decide) h (fun h => ?_) (fun h => ?_)
      · exact wr_wk [true, false, true, true, true, true, true, true, true] (g_X12_whose_101 l E (f_X12_whose_65 k52 n) x0 x2 x3 x4 x5 x6 x7 x8 s4 _ hx0 (fun x0 x2 x3 x4 x5 x6 x7 x8 σ hx0 h => ih x0 x2 x3 x4 x5 x6 x7 x8 σ hx0 h) h)
      · refine wr_aload_n (wg_da dt_X12_whose 49 rfl) rfl ?_
        refine wr_iload (wg_da dt_X12_whose 50 rfl) rfl ?_
        refine wr_iload (wg_da dt_X12_whose 51 rfl) rfl ?_
        refine wr_callVi [.int x8, .int x6] [] (wg_da dt_X12_whose 52 rfl) ⟨wq_8_142, wq_8_144, wq_p8_4⟩ hx0 ⟨rfl, by decide⟩ wy_X12_rulesFor (fun q hq => m_X12_rulesFor l E x0 x8 x6 hx0 _ q hq) rfl rfl (Nat.le_of_ble_eq_true rfl) ⟨rfl, rfl, by decide, by decide⟩ h (fun v5 s6 h => ?_)
        refine wr_if_le 101 (wg_da dt_X12_whose 53 rfl) (by decide) h (fun h => ?_) (fun h => ?_)
        · exact wr_wk [true, false, true, true, true, true, true, true, true] (g_X12_whose_101 l E (f_X12_whose_65 k52 n) x0 x2 x3 x4 x5 x6 x7 x8 s6 _ hx0 (fun x0 x2 x3 x4 x5 x6 x7 x8 σ hx0 h => ih x0 x2 x3 x4 x5 x6 x7 x8 σ hx0 h) h)
        · refine wr_iload (wg_da dt_X12_whose 54 rfl) rfl ?_
          refine wr_iconst (1 : Int32) (wg_da dt_X12_whose 55 rfl) (by decide) ?_
          refine wr_iadd (wg_da dt_X12_whose 56 rfl) ?_
          refine wr_let h (fun v7 h => ?_)
          refine wr_istore (wg_da dt_X12_whose 57 rfl) (by decide) ?_
          exact wr_wk [true, false, true, true, true, true, true, true, true] (g_X12_whose_101 l E (f_X12_whose_65 k52 n) x0 x2 x3 x4 x5 x6 v7 x8 s6 _ hx0 (fun x0 x2 x3 x4 x5 x6 x7 x8 σ hx0 h => ih x0 x2 x3 x4 x5 x6 x7 x8 σ hx0 h) h)
set_option maxRecDepth 20000 in
theorem g_X12_whose_52 (l : Launch) (E : wg_E)  (z : Int32 × wg_M) : ∀ (n : Nat) (x0 : Nat) (x2 : Int32) (x3 : Int32) (x4 : Int32) (x5 : Int32) (x6 : Int32) (σ : wg_M) (hx0 : wg_t Sm x0 = 14) (h : f_X12_whose_52  n x0 x2 x3 x4 x5 x6 σ = some z), wg_G l E Sm "WornWigsModel" cX12_whose 9 (some .int) rm_X12_whose (some z.1) z.2 52 [some (.ref x0), none, some (.int x2), some (.int x3), some (.int x4), some (.int x5), some (.int x6), none, none] [] σ := by
  intro n
  induction n with
  | zero => intro x0 x2 x3 x4 x5 x6 σ hx0 h; cases h
  | succ n ih =>
    intro x0 x2 x3 x4 x5 x6 σ hx0 h
    refine wr_iload (wg_da dt_X12_whose 33 rfl) rfl ?_
    refine wr_bipush (8 : Int32) (wg_da dt_X12_whose 34 rfl) (by decide) ?_
    refine wr_icmp_ge 151 (wg_da dt_X12_whose 35 rfl) (by decide) h (fun h => ?_) (fun h => ?_)
    · refine wr_iload (wg_da dt_X12_whose 81 rfl) rfl ?_
      exact wr_iret (wg_da dt_X12_whose 82 rfl) h
    · refine wr_iconst (0 : Int32) (wg_da dt_X12_whose 36 rfl) (by decide) ?_
      refine wr_istore (wg_da dt_X12_whose 37 rfl) (by decide) ?_
      refine wr_iconst (0 : Int32) (wg_da dt_X12_whose 38 rfl) (by decide) ?_
      refine wr_istore (wg_da dt_X12_whose 39 rfl) (by decide) ?_
      exact wr_wk [true, false, true, true, true, true, true, true, true] (g_X12_whose_65 l E (f_X12_whose_52  n) _ (fun x0 x2 x3 x4 x5 x6 σ hx0 h => ih x0 x2 x3 x4 x5 x6 σ hx0 h) wg_N x0 x2 x3 x4 x5 x6 (0 : Int32) (0 : Int32) σ hx0 h)
set_option maxRecDepth 20000 in
theorem g_X12_whose_e (l : Launch) (E : wg_E)  (x0 : Nat) (x1 : Int32) (σ : wg_M) (z : Int32 × wg_M) (hx0 : wg_t Sm x0 = 14) (h : f_X12_whose  x0 x1 σ = some z) : wg_G l E Sm "WornWigsModel" cX12_whose 9 (some .int) rm_X12_whose (some z.1) z.2 0 [some (.ref x0), some (.int x1), none, none, none, none, none, none, none] [] σ := by
  refine wr_aload_n (wg_da dt_X12_whose 0 rfl) rfl ?_
  refine wr_iconst (0 : Int32) (wg_da dt_X12_whose 1 rfl) (by decide) ?_
  refine wr_putI wfp_X12_113 (wg_da dt_X12_whose 2 rfl) hx0 h (fun s1 h => ?_)
  refine wr_aload_n (wg_da dt_X12_whose 3 rfl) rfl ?_
  refine wr_iload_n (wg_da dt_X12_whose 4 rfl) rfl ?_
  refine wr_iconst (0 : Int32) (wg_da dt_X12_whose 5 rfl) (by decide) ?_
  refine wr_iconst (1 : Int32) (wg_da dt_X12_whose 6 rfl) (by decide) ?_
  refine wr_callVi [.int x1, .int (0 : Int32), .int (1 : Int32)] [] (wg_da dt_X12_whose 7 rfl) ⟨wq_7_82, wq_7_84, wq_p4_3⟩ hx0 ⟨rfl, by decide⟩ wy_X12_isIn (fun q hq => m_X12_isIn l E x0 x1 (0 : Int32) (1 : Int32) hx0 _ q hq) rfl rfl (Nat.le_of_ble_eq_true rfl) ⟨rfl, rfl, by decide, by decide⟩ h (fun v2 s3 h => ?_)
  refine wr_if_ne 17 (wg_da dt_X12_whose 8 rfl) (by decide) h (fun h => ?_) (fun h => ?_)
  · refine wr_iconst (-1 : Int32) (wg_da dt_X12_whose 9 rfl) (by decide) ?_
    exact wr_iret (wg_da dt_X12_whose 10 rfl) h
  · refine wr_aload_n (wg_da dt_X12_whose 11 rfl) rfl ?_
    refine wr_callVi [] [] (wg_da dt_X12_whose 12 rfl) ⟨wq_9_89, wq_9_91, wq_p10_1⟩ hx0 ⟨rfl, by decide⟩ wy_X12_whoseSet (fun q hq => m_X12_whoseSet l E x0 hx0 _ q hq) rfl rfl (Nat.le_of_ble_eq_true rfl) ⟨rfl, rfl, by decide, by decide⟩ h (fun v4 s5 h => ?_)
    refine wr_istore_n (wg_da dt_X12_whose 13 rfl) (by decide) ?_
    refine wr_iload_n (wg_da dt_X12_whose 14 rfl) rfl ?_
    refine wr_if_ne 28 (wg_da dt_X12_whose 15 rfl) (by decide) h (fun h => ?_) (fun h => ?_)
    · refine wr_iload_n (wg_da dt_X12_whose 16 rfl) rfl ?_
      exact wr_iret (wg_da dt_X12_whose 17 rfl) h
    · refine wr_aload_n (wg_da dt_X12_whose 18 rfl) rfl ?_
      refine wr_iload_n (wg_da dt_X12_whose 19 rfl) rfl ?_
      refine wr_callVi [.int v4] [] (wg_da dt_X12_whose 20 rfl) ⟨wq_8_237, wq_8_239, wq_p9_4⟩ hx0 ⟨rfl, by decide⟩ wy_X12_onesOf (fun q hq => m_X12_onesOf l E x0 v4 hx0 _ q hq) rfl rfl (Nat.le_of_ble_eq_true rfl) ⟨rfl, rfl, by decide, by decide⟩ h (fun v6 s7 h => ?_)
      refine wr_istore_n (wg_da dt_X12_whose 21 rfl) (by decide) ?_
      refine wr_iload_n (wg_da dt_X12_whose 22 rfl) rfl ?_
      refine wr_iconst (2 : Int32) (wg_da dt_X12_whose 23 rfl) (by decide) ?_
      refine wr_icmp_ge 41 (wg_da dt_X12_whose 24 rfl) (by decide) h (fun h => ?_) (fun h => ?_)
      · refine wr_iconst (0 : Int32) (wg_da dt_X12_whose 27 rfl) (by decide) ?_
        refine wr_istore (wg_da dt_X12_whose 28 rfl) (by decide) ?_
        refine wr_ldcw (v := (100000000 : Int32)) (wg_da dt_X12_whose 29 rfl) wq_9_97 ?_
        refine wr_istore (wg_da dt_X12_whose 30 rfl) (by decide) ?_
        refine wr_iconst (0 : Int32) (wg_da dt_X12_whose 31 rfl) (by decide) ?_
        refine wr_istore (wg_da dt_X12_whose 32 rfl) (by decide) ?_
        exact wr_wk [true, false, true, true, true, true, true, false, false] (g_X12_whose_52 l E  _  wg_N x0 v4 v6 (0 : Int32) (100000000 : Int32) (0 : Int32) s7 hx0 h)
      · refine wr_iconst (-1 : Int32) (wg_da dt_X12_whose 25 rfl) (by decide) ?_
        exact wr_iret (wg_da dt_X12_whose 26 rfl) h
theorem m_X12_whose (l : Launch) (E : wg_E) (x0 : Nat) (x1 : Int32) (hx0 : wg_t Sm x0 = 14) (σ : wg_M) (q : Int32 × wg_M) (h : f_X12_whose x0 x1 σ = some q) : wg_MG l E Sm yX12_whose cX12_whose 9 (some .int) rm_X12_whose [.ref x0, .int x1] σ (some q.1) q.2 :=
  wg_met [.ref x0, .int x1] (plainFor_of_name (by decide)) (Nat.le_of_ble_eq_true rfl) (g_X12_whose_e l E x0 x1 σ q hx0 h)
abbrev rm_X12_cite : Room := { frames := 1, cells := 0, slots := 0, locals := 23 }
def tb_X12_cite : List (Nat × Instr × Nat) := [(0, .aload_n 0, 1), (1, .iconst 0, 1), (2, .putfield 113, 3), (5, .iload_n 1, 1), (6, .iconst (-1), 1), (7, .if_icmp .ne 31, 3), (10, .aload_n 0, 1), (11, .iconst 0, 1), (12, .putfield 484, 3), (15, .iconst 0, 1), (16, .istore_n 3, 1), (17, .iload_n 3, 1), (18, .bipush 14, 2), (20, .if_icmp .ge 16, 3), (23, .aload_n 0, 1), (24, .getfield 92, 3), (27, .iload_n 3, 1), (28, .iconst 0, 1), (29, .iastore, 1), (30, .iinc 3 1, 3), (33, .goto (-16), 3), (36, .iconst 0, 1), (37, .ireturn, 1), (38, .aload_n 0, 1), (39, .iload_n 1, 1), (40, .iconst 0, 1), (41, .bipush 13, 2), (43, .invokevirtual 153, 3), (46, .ifCond .eq 28, 3), (49, .aload_n 0, 1), (50, .iload_n 2, 1), (51, .iconst 0, 1), (52, .bipush 13, 2), (54, .invokevirtual 153, 3), (57, .ifCond .eq 17, 3), (60, .iload_n 1, 1), (61, .iload_n 2, 1), (62, .if_icmp .eq 12, 3), (65, .aload_n 0, 1), (66, .getfield 484, 3), (69, .bipush 16, 2), (71, .if_icmp .ne 5, 3), (74, .iconst (-1), 1), (75, .ireturn, 1), (76, .aload_n 0, 1), (77, .getfield 92, 3), (80, .iload_n 1, 1), (81, .aload_n 0, 1), (82, .getfield 92, 3), (85, .iload_n 1, 1), (86, .iaload, 1), (87, .iconst 1, 1), (88, .iload_n 2, 1), (89, .ishl, 1), (90, .ior, 1), (91, .iastore, 1), (92, .aload_n 0, 1), (93, .aload_n 0, 1), (94, .getfield 484, 3), (97, .iconst 1, 1), (98, .iadd, 1), (99, .putfield 484, 3), (102, .aload_n 0, 1), (103, .getfield 484, 3), (106, .ireturn, 1)]
theorem dt_X12_cite : wg_dc cX12_cite tb_X12_cite := by unfold wg_dc; decide +kernel
def f_X12_cite_17  : Nat → Nat → Int32 → wg_M → Option (Int32 × wg_M)
  | 0, _, _, _ => none
  | n + 1, x0, x3, σ => if (14 : Int32) ≤ x3 then (some ((0 : Int32), σ)) else (wg_sa (wg_n Sm (wg_r Sm x0 50)) σ (wg_r Sm x0 50) x3 (0 : Int32) (fun s1 => wg_let (x3 + (1 : Int32)) (fun v2 => f_X12_cite_17  n x0 v2 s1)))
def f_X12_cite  (x0 : Nat) (x1 : Int32) (x2 : Int32) (σ : wg_M) : Option (Int32 × wg_M) := wg_st σ x0 0 (0 : Int32) (fun s1 => if x1 = (-1 : Int32) then (wg_st s1 x0 49 (0 : Int32) (fun s9 => f_X12_cite_17  wg_N x0 (0 : Int32) s9)) else (wg_bd (f_X12_isIn x0 x1 (0 : Int32) (13 : Int32) s1) (fun v2 s3 => if v2 = 0 then (some ((-1 : Int32), s3)) else (wg_bd (f_X12_isIn x0 x2 (0 : Int32) (13 : Int32) s3) (fun v4 s5 => if v4 = 0 then (some ((-1 : Int32), s5)) else (if x1 = x2 then (some ((-1 : Int32), s5)) else (if (s5 x0 49) = (16 : Int32) then (some ((-1 : Int32), s5)) else (wg_ga (wg_n Sm (wg_r Sm x0 50)) (s5 (wg_r Sm x0 50)) x1 (fun v6 => wg_sa (wg_n Sm (wg_r Sm x0 50)) s5 (wg_r Sm x0 50) x1 (v6 ||| ((1 : Int32) <<< (x2 &&& 31))) (fun s7 => wg_st s7 x0 49 ((s7 x0 49) + (1 : Int32)) (fun s8 => some (s8 x0 49, s8))))))))))))
set_option maxRecDepth 20000 in
theorem g_X12_cite_17 (l : Launch) (E : wg_E)  (z : Int32 × wg_M) : ∀ (n : Nat) (x0 : Nat) (x3 : Int32) (σ : wg_M) (hx0 : wg_t Sm x0 = 14) (h : f_X12_cite_17  n x0 x3 σ = some z), wg_G l E Sm "WornWigsModel" cX12_cite 4 (some .int) rm_X12_cite (some z.1) z.2 17 [some (.ref x0), none, none, some (.int x3)] [] σ := by
  intro n
  induction n with
  | zero => intro x0 x3 σ hx0 h; cases h
  | succ n ih =>
    intro x0 x3 σ hx0 h
    refine wr_iload_n (wg_da dt_X12_cite 11 rfl) rfl ?_
    refine wr_bipush (14 : Int32) (wg_da dt_X12_cite 12 rfl) (by decide) ?_
    refine wr_icmp_ge 36 (wg_da dt_X12_cite 13 rfl) (by decide) h (fun h => ?_) (fun h => ?_)
    · refine wr_iconst (0 : Int32) (wg_da dt_X12_cite 21 rfl) (by decide) ?_
      exact wr_iret (wg_da dt_X12_cite 22 rfl) h
    · refine wr_aload_n (wg_da dt_X12_cite 14 rfl) rfl ?_
      refine wr_getR wf_X12_92 (wg_da dt_X12_cite 15 rfl) hx0 ?_
      refine wr_iload_n (wg_da dt_X12_cite 16 rfl) rfl ?_
      refine wr_iconst (0 : Int32) (wg_da dt_X12_cite 17 rfl) (by decide) ?_
      refine wr_iast (wg_da dt_X12_cite 18 rfl) (wg_ty Sm_ok 12 50 0 hx0 rfl (by decide)).2 h (fun s1 h => ?_)
      refine wr_iinc (c0 := (1 : Int32)) (wg_da dt_X12_cite 19 rfl) rfl (by decide) (by decide) h (fun v2 h => ?_)
      refine wr_goto 17 (wg_da dt_X12_cite 20 rfl) (by decide) ?_
      exact wr_wk [true, false, false, true] (ih x0 v2 s1 hx0 h)
set_option maxRecDepth 20000 in
theorem g_X12_cite_e (l : Launch) (E : wg_E)  (x0 : Nat) (x1 : Int32) (x2 : Int32) (σ : wg_M) (z : Int32 × wg_M) (hx0 : wg_t Sm x0 = 14) (h : f_X12_cite  x0 x1 x2 σ = some z) : wg_G l E Sm "WornWigsModel" cX12_cite 4 (some .int) rm_X12_cite (some z.1) z.2 0 [some (.ref x0), some (.int x1), some (.int x2), none] [] σ := by
  refine wr_aload_n (wg_da dt_X12_cite 0 rfl) rfl ?_
  refine wr_iconst (0 : Int32) (wg_da dt_X12_cite 1 rfl) (by decide) ?_
  refine wr_putI wfp_X12_113 (wg_da dt_X12_cite 2 rfl) hx0 h (fun s1 h => ?_)
  refine wr_iload_n (wg_da dt_X12_cite 3 rfl) rfl ?_
  refine wr_iconst (-1 : Int32) (wg_da dt_X12_cite 4 rfl) (by decide) ?_
  refine wr_icmp_ne 38 (wg_da dt_X12_cite 5 rfl) (by decide) h (fun h => ?_) (fun h => ?_)
  · refine wr_aload_n (wg_da dt_X12_cite 6 rfl) rfl ?_
    refine wr_iconst (0 : Int32) (wg_da dt_X12_cite 7 rfl) (by decide) ?_
    refine wr_putI wfp_X12_484 (wg_da dt_X12_cite 8 rfl) hx0 h (fun s9 h => ?_)
    refine wr_iconst (0 : Int32) (wg_da dt_X12_cite 9 rfl) (by decide) ?_
    refine wr_istore_n (wg_da dt_X12_cite 10 rfl) (by decide) ?_
    exact wr_wk [true, false, false, true] (g_X12_cite_17 l E  _  wg_N x0 (0 : Int32) s9 hx0 h)
  · refine wr_aload_n (wg_da dt_X12_cite 23 rfl) rfl ?_
    refine wr_iload_n (wg_da dt_X12_cite 24 rfl) rfl ?_
    refine wr_iconst (0 : Int32) (wg_da dt_X12_cite 25 rfl) (by decide) ?_
    refine wr_bipush (13 : Int32) (wg_da dt_X12_cite 26 rfl) (by decide) ?_
    refine wr_callVi [.int x1, .int (0 : Int32), .int (13 : Int32)] [] (wg_da dt_X12_cite 27 rfl) ⟨wq_7_82, wq_7_84, wq_p4_3⟩ hx0 ⟨rfl, by decide⟩ wy_X12_isIn (fun q hq => m_X12_isIn l E x0 x1 (0 : Int32) (13 : Int32) hx0 _ q hq) rfl rfl (Nat.le_of_ble_eq_true rfl) ⟨rfl, rfl, by decide, by decide⟩ h (fun v2 s3 h => ?_)
    refine wr_if_eq 74 (wg_da dt_X12_cite 28 rfl) (by decide) h (fun h => ?_) (fun h => ?_)
    · refine wr_iconst (-1 : Int32) (wg_da dt_X12_cite 42 rfl) (by decide) ?_
      exact wr_iret (wg_da dt_X12_cite 43 rfl) h
    · refine wr_aload_n (wg_da dt_X12_cite 29 rfl) rfl ?_
      refine wr_iload_n (wg_da dt_X12_cite 30 rfl) rfl ?_
      refine wr_iconst (0 : Int32) (wg_da dt_X12_cite 31 rfl) (by decide) ?_
      refine wr_bipush (13 : Int32) (wg_da dt_X12_cite 32 rfl) (by decide) ?_
      refine wr_callVi [.int x2, .int (0 : Int32), .int (13 : Int32)] [] (wg_da dt_X12_cite 33 rfl) ⟨wq_7_82, wq_7_84, wq_p4_3⟩ hx0 ⟨rfl, by decide⟩ wy_X12_isIn (fun q hq => m_X12_isIn l E x0 x2 (0 : Int32) (13 : Int32) hx0 _ q hq) rfl rfl (Nat.le_of_ble_eq_true rfl) ⟨rfl, rfl, by decide, by decide⟩ h (fun v4 s5 h => ?_)
      refine wr_if_eq 74 (wg_da dt_X12_cite 34 rfl) (by decide) h (fun h => ?_) (fun h => ?_)
      · refine wr_iconst (-1 : Int32) (wg_da dt_X12_cite 42 rfl) (by decide) ?_
        exact wr_iret (wg_da dt_X12_cite 43 rfl) h
      · refine wr_iload_n (wg_da dt_X12_cite 35 rfl) rfl ?_
        refine wr_iload_n (wg_da dt_X12_cite 36 rfl) rfl ?_
        refine wr_icmp_eq 74 (wg_da dt_X12_cite 37 rfl) (by decide) h (fun h => ?_) (fun h => ?_)
        · refine wr_iconst (-1 : Int32) (wg_da dt_X12_cite 42 rfl) (by decide) ?_
          exact wr_iret (wg_da dt_X12_cite 43 rfl) h
        · refine wr_aload_n (wg_da dt_X12_cite 38 rfl) rfl ?_
          refine wr_getI wf_X12_484 (wg_da dt_X12_cite 39 rfl) hx0 ?_
          refine wr_bipush (16 : Int32) (wg_da dt_X12_cite 40 rfl) (by decide) ?_
          refine wr_icmp_ne 76 (wg_da dt_X12_cite 41 rfl) (by decide) h (fun h => ?_) (fun h => ?_)
          · refine wr_iconst (-1 : Int32) (wg_da dt_X12_cite 42 rfl) (by decide) ?_
            exact wr_iret (wg_da dt_X12_cite 43 rfl) h
          · refine wr_aload_n (wg_da dt_X12_cite 44 rfl) rfl ?_
            refine wr_getR wf_X12_92 (wg_da dt_X12_cite 45 rfl) hx0 ?_
            refine wr_iload_n (wg_da dt_X12_cite 46 rfl) rfl ?_
            refine wr_aload_n (wg_da dt_X12_cite 47 rfl) rfl ?_
            refine wr_getR wf_X12_92 (wg_da dt_X12_cite 48 rfl) hx0 ?_
            refine wr_iload_n (wg_da dt_X12_cite 49 rfl) rfl ?_
            refine wr_iald (wg_da dt_X12_cite 50 rfl) (wg_ty Sm_ok 12 50 0 hx0 rfl (by decide)).2 h (fun v6 h => ?_)
            refine wr_iconst (1 : Int32) (wg_da dt_X12_cite 51 rfl) (by decide) ?_
            refine wr_iload_n (wg_da dt_X12_cite 52 rfl) rfl ?_
            refine wr_ishl (wg_da dt_X12_cite 53 rfl) ?_
            refine wr_ior (wg_da dt_X12_cite 54 rfl) ?_
            refine wr_iast (wg_da dt_X12_cite 55 rfl) (wg_ty Sm_ok 12 50 0 hx0 rfl (by decide)).2 h (fun s7 h => ?_)
            refine wr_aload_n (wg_da dt_X12_cite 56 rfl) rfl ?_
            refine wr_aload_n (wg_da dt_X12_cite 57 rfl) rfl ?_
            refine wr_getI wf_X12_484 (wg_da dt_X12_cite 58 rfl) hx0 ?_
            refine wr_iconst (1 : Int32) (wg_da dt_X12_cite 59 rfl) (by decide) ?_
            refine wr_iadd (wg_da dt_X12_cite 60 rfl) ?_
            refine wr_putI wfp_X12_484 (wg_da dt_X12_cite 61 rfl) hx0 h (fun s8 h => ?_)
            refine wr_aload_n (wg_da dt_X12_cite 62 rfl) rfl ?_
            refine wr_getI wf_X12_484 (wg_da dt_X12_cite 63 rfl) hx0 ?_
            exact wr_iret (wg_da dt_X12_cite 64 rfl) h
theorem m_X12_cite (l : Launch) (E : wg_E) (x0 : Nat) (x1 : Int32) (x2 : Int32) (hx0 : wg_t Sm x0 = 14) (σ : wg_M) (q : Int32 × wg_M) (h : f_X12_cite x0 x1 x2 σ = some q) : wg_MG l E Sm yX12_cite cX12_cite 4 (some .int) rm_X12_cite [.ref x0, .int x1, .int x2] σ (some q.1) q.2 :=
  wg_met [.ref x0, .int x1, .int x2] (plainFor_of_name (by decide)) (Nat.le_of_ble_eq_true rfl) (g_X12_cite_e l E x0 x1 x2 σ q hx0 h)
abbrev rm_X12_longestFrom : Room := { frames := 1, cells := 0, slots := 0, locals := 22 }
def tb_X12_longestFrom : List (Nat × Instr × Nat) := [(0, .iconst 0, 1), (1, .istore_n 2, 1), (2, .iconst 0, 1), (3, .istore_n 3, 1), (4, .iload_n 3, 1), (5, .bipush 14, 2), (7, .if_icmp .ge 35, 3), (10, .aload_n 0, 1), (11, .aload_n 0, 1), (12, .getfield 92, 3), (15, .iload_n 1, 1), (16, .iaload, 1), (17, .iload_n 3, 1), (18, .invokevirtual 441, 3), (21, .ifCond .eq 15, 3), (24, .aload_n 0, 1), (25, .iload_n 2, 1), (26, .aload_n 0, 1), (27, .getfield 95, 3), (30, .iload_n 3, 1), (31, .iaload, 1), (32, .invokevirtual 345, 3), (35, .istore_n 2, 1), (36, .iinc 3 1, 3), (39, .goto (-35), 3), (42, .iload_n 2, 1), (43, .iconst 1, 1), (44, .iadd, 1), (45, .ireturn, 1)]
theorem dt_X12_longestFrom : wg_dc cX12_longestFrom tb_X12_longestFrom := by unfold wg_dc; decide +kernel
def f_X12_longestFrom_36 (k4 : Nat → Int32 → Int32 → Int32 → wg_M → Option (Int32 × wg_M)) (x0 : Nat) (x1 : Int32) (x2 : Int32) (x3 : Int32) (σ : wg_M) : Option (Int32 × wg_M) := wg_let (x3 + (1 : Int32)) (fun v1 => k4 x0 x1 x2 v1 σ)
def f_X12_longestFrom_4  : Nat → Nat → Int32 → Int32 → Int32 → wg_M → Option (Int32 × wg_M)
  | 0, _, _, _, _, _ => none
  | n + 1, x0, x1, x2, x3, σ => if (14 : Int32) ≤ x3 then (some (x2 + (1 : Int32), σ)) else (wg_ga (wg_n Sm (wg_r Sm x0 50)) (σ (wg_r Sm x0 50)) x1 (fun v1 => wg_bd (f_X12_has x0 v1 x3 σ) (fun v2 s3 => if v2 = 0 then (f_X12_longestFrom_36 (f_X12_longestFrom_4  n) x0 x1 x2 x3 s3) else (wg_ga (wg_n Sm (wg_r Sm x0 51)) (s3 (wg_r Sm x0 51)) x3 (fun v4 => wg_bd (f_X12_greater x0 x2 v4 s3) (fun v5 s6 => f_X12_longestFrom_36 (f_X12_longestFrom_4  n) x0 x1 v5 x3 s6))))))
def f_X12_longestFrom  (x0 : Nat) (x1 : Int32) (σ : wg_M) : Option (Int32 × wg_M) := f_X12_longestFrom_4  wg_N x0 x1 (0 : Int32) (0 : Int32) σ
set_option maxRecDepth 20000 in
theorem g_X12_longestFrom_36 (l : Launch) (E : wg_E) (k4 : Nat → Int32 → Int32 → Int32 → wg_M → Option (Int32 × wg_M)) (x0 : Nat) (x1 : Int32) (x2 : Int32) (x3 : Int32) (σ : wg_M) (z : Int32 × wg_M) (hx0 : wg_t Sm x0 = 14) (hk4 : ∀ (x0 : Nat) (x1 : Int32) (x2 : Int32) (x3 : Int32) (σ : wg_M), wg_t Sm x0 = 14 → k4 x0 x1 x2 x3 σ = some z → wg_G l E Sm "WornWigsModel" cX12_longestFrom 4 (some .int) rm_X12_longestFrom (some z.1) z.2 4 [some (.ref x0), some (.int x1), some (.int x2), some (.int x3)] [] σ) (h : f_X12_longestFrom_36 k4 x0 x1 x2 x3 σ = some z) : wg_G l E Sm "WornWigsModel" cX12_longestFrom 4 (some .int) rm_X12_longestFrom (some z.1) z.2 36 [some (.ref x0), some (.int x1), some (.int x2), some (.int x3)] [] σ := by
  refine wr_iinc (c0 := (1 : Int32)) (wg_da dt_X12_longestFrom 23 rfl) rfl (by decide) (by decide) h (fun v1 h => ?_)
  refine wr_goto 4 (wg_da dt_X12_longestFrom 24 rfl) (by decide) ?_
  exact wr_wk [true, true, true, true] (hk4 x0 x1 x2 v1 σ hx0 h)
set_option maxRecDepth 20000 in
theorem g_X12_longestFrom_4 (l : Launch) (E : wg_E)  (z : Int32 × wg_M) : ∀ (n : Nat) (x0 : Nat) (x1 : Int32) (x2 : Int32) (x3 : Int32) (σ : wg_M) (hx0 : wg_t Sm x0 = 14) (h : f_X12_longestFrom_4  n x0 x1 x2 x3 σ = some z), wg_G l E Sm "WornWigsModel" cX12_longestFrom 4 (some .int) rm_X12_longestFrom (some z.1) z.2 4 [some (.ref x0), some (.int x1), some (.int x2), some (.int x3)] [] σ := by
  intro n
  induction n with
  | zero => intro x0 x1 x2 x3 σ hx0 h; cases h
  | succ n ih =>
    intro x0 x1 x2 x3 σ hx0 h
    refine wr_iload_n (wg_da dt_X12_longestFrom 4 rfl) rfl ?_
    refine wr_bipush (14 : Int32) (wg_da dt_X12_longestFrom 5 rfl) (by decide) ?_
    refine wr_icmp_ge 42 (wg_da dt_X12_longestFrom 6 rfl) (by decide) h (fun h => ?_) (fun h => ?_)
    · refine wr_iload_n (wg_da dt_X12_longestFrom 25 rfl) rfl ?_
      refine wr_iconst (1 : Int32) (wg_da dt_X12_longestFrom 26 rfl) (by decide) ?_
      refine wr_iadd (wg_da dt_X12_longestFrom 27 rfl) ?_
      exact wr_iret (wg_da dt_X12_longestFrom 28 rfl) h
    · refine wr_aload_n (wg_da dt_X12_longestFrom 7 rfl) rfl ?_
      refine wr_aload_n (wg_da dt_X12_longestFrom 8 rfl) rfl ?_
      refine wr_getR wf_X12_92 (wg_da dt_X12_longestFrom 9 rfl) hx0 ?_
      refine wr_iload_n (wg_da dt_X12_longestFrom 10 rfl) rfl ?_
      refine wr_iald (wg_da dt_X12_longestFrom 11 rfl) (wg_ty Sm_ok 12 50 0 hx0 rfl (by decide)).2 h (fun v1 h => ?_)
      refine wr_iload_n (wg_da dt_X12_longestFrom 12 rfl) rfl ?_
      refine wr_callVi [.int v1, .int x3] [] (wg_da dt_X12_longestFrom 13 rfl) ⟨wq_9_21, wq_9_23, wq_p9_7⟩ hx0 ⟨rfl, by decide⟩ wy_X12_has (fun q hq => m_X12_has l E x0 v1 x3 hx0 _ q hq) rfl rfl (Nat.le_of_ble_eq_true rfl) ⟨rfl, rfl, by decide, by decide⟩ h (fun v2 s3 h => ?_)
      refine wr_if_eq 36 (wg_da dt_X12_longestFrom 14 rfl) (by decide) h (fun h => ?_) (fun h => ?_)
      · exact wr_wk [true, true, true, true] (g_X12_longestFrom_36 l E (f_X12_longestFrom_4  n) x0 x1 x2 x3 s3 _ hx0 (fun x0 x1 x2 x3 σ hx0 h => ih x0 x1 x2 x3 σ hx0 h) h)
      · refine wr_aload_n (wg_da dt_X12_longestFrom 15 rfl) rfl ?_
        refine wr_iload_n (wg_da dt_X12_longestFrom 16 rfl) rfl ?_
        refine wr_aload_n (wg_da dt_X12_longestFrom 17 rfl) rfl ?_
        refine wr_getR wf_X12_95 (wg_da dt_X12_longestFrom 18 rfl) hx0 ?_
        refine wr_iload_n (wg_da dt_X12_longestFrom 19 rfl) rfl ?_
        refine wr_iald (wg_da dt_X12_longestFrom 20 rfl) (wg_ty Sm_ok 12 51 0 hx0 rfl (by decide)).2 h (fun v4 h => ?_)
        refine wr_callVi [.int x2, .int v4] [] (wg_da dt_X12_longestFrom 21 rfl) ⟨wq_8_162, wq_8_164, wq_p8_9⟩ hx0 ⟨rfl, by decide⟩ wy_X12_greater (fun q hq => m_X12_greater l E x0 x2 v4 hx0 _ q hq) rfl rfl (Nat.le_of_ble_eq_true rfl) ⟨rfl, rfl, by decide, by decide⟩ h (fun v5 s6 h => ?_)
        refine wr_istore_n (wg_da dt_X12_longestFrom 22 rfl) (by decide) ?_
        exact wr_wk [true, true, true, true] (g_X12_longestFrom_36 l E (f_X12_longestFrom_4  n) x0 x1 v5 x3 s6 _ hx0 (fun x0 x1 x2 x3 σ hx0 h => ih x0 x1 x2 x3 σ hx0 h) h)
set_option maxRecDepth 20000 in
theorem g_X12_longestFrom_e (l : Launch) (E : wg_E)  (x0 : Nat) (x1 : Int32) (σ : wg_M) (z : Int32 × wg_M) (hx0 : wg_t Sm x0 = 14) (h : f_X12_longestFrom  x0 x1 σ = some z) : wg_G l E Sm "WornWigsModel" cX12_longestFrom 4 (some .int) rm_X12_longestFrom (some z.1) z.2 0 [some (.ref x0), some (.int x1), none, none] [] σ := by
  refine wr_iconst (0 : Int32) (wg_da dt_X12_longestFrom 0 rfl) (by decide) ?_
  refine wr_istore_n (wg_da dt_X12_longestFrom 1 rfl) (by decide) ?_
  refine wr_iconst (0 : Int32) (wg_da dt_X12_longestFrom 2 rfl) (by decide) ?_
  refine wr_istore_n (wg_da dt_X12_longestFrom 3 rfl) (by decide) ?_
  exact wr_wk [true, true, true, true] (g_X12_longestFrom_4 l E  _  wg_N x0 x1 (0 : Int32) (0 : Int32) σ hx0 h)
theorem m_X12_longestFrom (l : Launch) (E : wg_E) (x0 : Nat) (x1 : Int32) (hx0 : wg_t Sm x0 = 14) (σ : wg_M) (q : Int32 × wg_M) (h : f_X12_longestFrom x0 x1 σ = some q) : wg_MG l E Sm yX12_longestFrom cX12_longestFrom 4 (some .int) rm_X12_longestFrom [.ref x0, .int x1] σ (some q.1) q.2 :=
  wg_met [.ref x0, .int x1] (plainFor_of_name (by decide)) (Nat.le_of_ble_eq_true rfl) (g_X12_longestFrom_e l E x0 x1 σ q hx0 h)
abbrev rm_X12_findsChained : Room := { frames := 2, cells := 0, slots := 0, locals := 45 }
def tb_X12_findsChained : List (Nat × Instr × Nat) := [(0, .iconst 0, 1), (1, .istore_n 1, 1), (2, .iload_n 1, 1), (3, .bipush 14, 2), (5, .if_icmp .ge 16, 3), (8, .aload_n 0, 1), (9, .getfield 95, 3), (12, .iload_n 1, 1), (13, .iconst 1, 1), (14, .iastore, 1), (15, .iinc 1 1, 3), (18, .goto (-16), 3), (21, .iconst 0, 1), (22, .istore_n 1, 1), (23, .iload_n 1, 1), (24, .bipush 14, 2), (26, .if_icmp .ge 34, 3), (29, .iconst 0, 1), (30, .istore_n 2, 1), (31, .iload_n 2, 1), (32, .bipush 14, 2), (34, .if_icmp .ge 20, 3), (37, .aload_n 0, 1), (38, .getfield 95, 3), (41, .iload_n 2, 1), (42, .aload_n 0, 1), (43, .iload_n 2, 1), (44, .invokevirtual 487, 3), (47, .iastore, 1), (48, .iinc 2 1, 3), (51, .goto (-20), 3), (54, .iinc 1 1, 3), (57, .goto (-34), 3), (60, .iconst 0, 1), (61, .istore_n 1, 1), (62, .iload_n 1, 1), (63, .bipush 14, 2), (65, .if_icmp .ge 25, 3), (68, .aload_n 0, 1), (69, .getfield 95, 3), (72, .iload_n 1, 1), (73, .iaload, 1), (74, .aload_n 0, 1), (75, .iload_n 1, 1), (76, .invokevirtual 487, 3), (79, .if_icmp .eq 5, 3), (82, .iconst 0, 1), (83, .ireturn, 1), (84, .iinc 1 1, 3), (87, .goto (-25), 3), (90, .iconst 1, 1), (91, .ireturn, 1)]
theorem dt_X12_findsChained : wg_dc cX12_findsChained tb_X12_findsChained := by unfold wg_dc; decide +kernel
def f_X12_findsChained_62  : Nat → Nat → Int32 → wg_M → Option (Int32 × wg_M)
  | 0, _, _, _ => none
  | n + 1, x0, x1, σ => if (14 : Int32) ≤ x1 then (some ((1 : Int32), σ)) else (wg_ga (wg_n Sm (wg_r Sm x0 51)) (σ (wg_r Sm x0 51)) x1 (fun v1 => wg_bd (f_X12_longestFrom x0 x1 σ) (fun v2 s3 => if v1 = v2 then (wg_let (x1 + (1 : Int32)) (fun v4 => f_X12_findsChained_62  n x0 v4 s3)) else (some ((0 : Int32), s3)))))
def f_X12_findsChained_31 (k23 : Nat → Int32 → wg_M → Option (Int32 × wg_M)) : Nat → Nat → Int32 → Int32 → wg_M → Option (Int32 × wg_M)
  | 0, _, _, _, _ => none
  | n + 1, x0, x1, x2, σ => if (14 : Int32) ≤ x2 then (wg_let (x1 + (1 : Int32)) (fun v1 => k23 x0 v1 σ)) else (wg_bd (f_X12_longestFrom x0 x2 σ) (fun v2 s3 => wg_sa (wg_n Sm (wg_r Sm x0 51)) s3 (wg_r Sm x0 51) x2 v2 (fun s4 => wg_let (x2 + (1 : Int32)) (fun v5 => f_X12_findsChained_31 k23 n x0 x1 v5 s4))))
def f_X12_findsChained_23  : Nat → Nat → Int32 → wg_M → Option (Int32 × wg_M)
  | 0, _, _, _ => none
  | n + 1, x0, x1, σ => if (14 : Int32) ≤ x1 then (f_X12_findsChained_62  wg_N x0 (0 : Int32) σ) else (f_X12_findsChained_31 (f_X12_findsChained_23  n) wg_N x0 x1 (0 : Int32) σ)
def f_X12_findsChained_2  : Nat → Nat → Int32 → wg_M → Option (Int32 × wg_M)
  | 0, _, _, _ => none
  | n + 1, x0, x1, σ => if (14 : Int32) ≤ x1 then (f_X12_findsChained_23  wg_N x0 (0 : Int32) σ) else (wg_sa (wg_n Sm (wg_r Sm x0 51)) σ (wg_r Sm x0 51) x1 (1 : Int32) (fun s1 => wg_let (x1 + (1 : Int32)) (fun v2 => f_X12_findsChained_2  n x0 v2 s1)))
def f_X12_findsChained  (x0 : Nat) (σ : wg_M) : Option (Int32 × wg_M) := f_X12_findsChained_2  wg_N x0 (0 : Int32) σ
set_option maxRecDepth 20000 in
theorem g_X12_findsChained_62 (l : Launch) (E : wg_E)  (z : Int32 × wg_M) : ∀ (n : Nat) (x0 : Nat) (x1 : Int32) (σ : wg_M) (hx0 : wg_t Sm x0 = 14) (h : f_X12_findsChained_62  n x0 x1 σ = some z), wg_G l E Sm "WornWigsModel" cX12_findsChained 3 (some .boolean) rm_X12_findsChained (some z.1) z.2 62 [some (.ref x0), some (.int x1), none] [] σ := by
  intro n
  induction n with
  | zero => intro x0 x1 σ hx0 h; cases h
  | succ n ih =>
    intro x0 x1 σ hx0 h
    refine wr_iload_n (wg_da dt_X12_findsChained 35 rfl) rfl ?_
    refine wr_bipush (14 : Int32) (wg_da dt_X12_findsChained 36 rfl) (by decide) ?_
    refine wr_icmp_ge 90 (wg_da dt_X12_findsChained 37 rfl) (by decide) h (fun h => ?_) (fun h => ?_)
    · refine wr_iconst (1 : Int32) (wg_da dt_X12_findsChained 50 rfl) (by decide) ?_
      exact wr_zret1 (wg_da dt_X12_findsChained 51 rfl) h
    · refine wr_aload_n (wg_da dt_X12_findsChained 38 rfl) rfl ?_
      refine wr_getR wf_X12_95 (wg_da dt_X12_findsChained 39 rfl) hx0 ?_
      refine wr_iload_n (wg_da dt_X12_findsChained 40 rfl) rfl ?_
      refine wr_iald (wg_da dt_X12_findsChained 41 rfl) (wg_ty Sm_ok 12 51 0 hx0 rfl (by decide)).2 h (fun v1 h => ?_)
      refine wr_aload_n (wg_da dt_X12_findsChained 42 rfl) rfl ?_
      refine wr_iload_n (wg_da dt_X12_findsChained 43 rfl) rfl ?_
      refine wr_callVi [.int x1] [.int v1] (wg_da dt_X12_findsChained 44 rfl) ⟨wq_9_110, wq_9_112, wq_p10_4⟩ hx0 ⟨rfl, by decide⟩ wy_X12_longestFrom (fun q hq => m_X12_longestFrom l E x0 x1 hx0 _ q hq) rfl rfl (Nat.le_of_ble_eq_true rfl) ⟨rfl, rfl, by decide, by decide⟩ h (fun v2 s3 h => ?_)
      refine wr_icmp_eq 84 (wg_da dt_X12_findsChained 45 rfl) (by decide) h (fun h => ?_) (fun h => ?_)
      · refine wr_iinc (c0 := (1 : Int32)) (wg_da dt_X12_findsChained 48 rfl) rfl (by decide) (by decide) h (fun v4 h => ?_)
        refine wr_goto 62 (wg_da dt_X12_findsChained 49 rfl) (by decide) ?_
        exact wr_wk [true, true, false] (ih x0 v4 s3 hx0 h)
      · refine wr_iconst (0 : Int32) (wg_da dt_X12_findsChained 46 rfl) (by decide) ?_
        exact wr_zret0 (wg_da dt_X12_findsChained 47 rfl) h
set_option maxRecDepth 20000 in
theorem g_X12_findsChained_31 (l : Launch) (E : wg_E) (k23 : Nat → Int32 → wg_M → Option (Int32 × wg_M)) (z : Int32 × wg_M) (hk23 : ∀ (x0 : Nat) (x1 : Int32) (σ : wg_M), wg_t Sm x0 = 14 → k23 x0 x1 σ = some z → wg_G l E Sm "WornWigsModel" cX12_findsChained 3 (some .boolean) rm_X12_findsChained (some z.1) z.2 23 [some (.ref x0), some (.int x1), none] [] σ) : ∀ (n : Nat) (x0 : Nat) (x1 : Int32) (x2 : Int32) (σ : wg_M) (hx0 : wg_t Sm x0 = 14) (h : f_X12_findsChained_31 k23 n x0 x1 x2 σ = some z), wg_G l E Sm "WornWigsModel" cX12_findsChained 3 (some .boolean) rm_X12_findsChained (some z.1) z.2 31 [some (.ref x0), some (.int x1), some (.int x2)] [] σ := by
  intro n
  induction n with
  | zero => intro x0 x1 x2 σ hx0 h; cases h
  | succ n ih =>
    intro x0 x1 x2 σ hx0 h
    refine wr_iload_n (wg_da dt_X12_findsChained 19 rfl) rfl ?_
    refine wr_bipush (14 : Int32) (wg_da dt_X12_findsChained 20 rfl) (by decide) ?_
    refine wr_icmp_ge 54 (wg_da dt_X12_findsChained 21 rfl) (by decide) h (fun h => ?_) (fun h => ?_)
    · refine wr_iinc (c0 := (1 : Int32)) (wg_da dt_X12_findsChained 31 rfl) rfl (by decide) (by decide) h (fun v1 h => ?_)
      refine wr_goto 23 (wg_da dt_X12_findsChained 32 rfl) (by decide) ?_
      exact wr_wk [true, true, false] (hk23 x0 v1 σ hx0 h)
    · refine wr_aload_n (wg_da dt_X12_findsChained 22 rfl) rfl ?_
      refine wr_getR wf_X12_95 (wg_da dt_X12_findsChained 23 rfl) hx0 ?_
      refine wr_iload_n (wg_da dt_X12_findsChained 24 rfl) rfl ?_
      refine wr_aload_n (wg_da dt_X12_findsChained 25 rfl) rfl ?_
      refine wr_iload_n (wg_da dt_X12_findsChained 26 rfl) rfl ?_
      refine wr_callVi [.int x2] [.int x2, .ref (wg_r Sm x0 51)] (wg_da dt_X12_findsChained 27 rfl) ⟨wq_9_110, wq_9_112, wq_p10_4⟩ hx0 ⟨rfl, by decide⟩ wy_X12_longestFrom (fun q hq => m_X12_longestFrom l E x0 x2 hx0 _ q hq) rfl rfl (Nat.le_of_ble_eq_true rfl) ⟨rfl, rfl, by decide, by decide⟩ h (fun v2 s3 h => ?_)
      refine wr_iast (wg_da dt_X12_findsChained 28 rfl) (wg_ty Sm_ok 12 51 0 hx0 rfl (by decide)).2 h (fun s4 h => ?_)
      refine wr_iinc (c0 := (1 : Int32)) (wg_da dt_X12_findsChained 29 rfl) rfl (by decide) (by decide) h (fun v5 h => ?_)
      refine wr_goto 31 (wg_da dt_X12_findsChained 30 rfl) (by decide) ?_
      exact wr_wk [true, true, true] (ih x0 x1 v5 s4 hx0 h)
set_option maxRecDepth 20000 in
theorem g_X12_findsChained_23 (l : Launch) (E : wg_E)  (z : Int32 × wg_M) : ∀ (n : Nat) (x0 : Nat) (x1 : Int32) (σ : wg_M) (hx0 : wg_t Sm x0 = 14) (h : f_X12_findsChained_23  n x0 x1 σ = some z), wg_G l E Sm "WornWigsModel" cX12_findsChained 3 (some .boolean) rm_X12_findsChained (some z.1) z.2 23 [some (.ref x0), some (.int x1), none] [] σ := by
  intro n
  induction n with
  | zero => intro x0 x1 σ hx0 h; cases h
  | succ n ih =>
    intro x0 x1 σ hx0 h
    refine wr_iload_n (wg_da dt_X12_findsChained 14 rfl) rfl ?_
    refine wr_bipush (14 : Int32) (wg_da dt_X12_findsChained 15 rfl) (by decide) ?_
    refine wr_icmp_ge 60 (wg_da dt_X12_findsChained 16 rfl) (by decide) h (fun h => ?_) (fun h => ?_)
    · refine wr_iconst (0 : Int32) (wg_da dt_X12_findsChained 33 rfl) (by decide) ?_
      refine wr_istore_n (wg_da dt_X12_findsChained 34 rfl) (by decide) ?_
      exact wr_wk [true, true, false] (g_X12_findsChained_62 l E  _  wg_N x0 (0 : Int32) σ hx0 h)
    · refine wr_iconst (0 : Int32) (wg_da dt_X12_findsChained 17 rfl) (by decide) ?_
      refine wr_istore_n (wg_da dt_X12_findsChained 18 rfl) (by decide) ?_
      exact wr_wk [true, true, true] (g_X12_findsChained_31 l E (f_X12_findsChained_23  n) _ (fun x0 x1 σ hx0 h => ih x0 x1 σ hx0 h) wg_N x0 x1 (0 : Int32) σ hx0 h)
set_option maxRecDepth 20000 in
theorem g_X12_findsChained_2 (l : Launch) (E : wg_E)  (z : Int32 × wg_M) : ∀ (n : Nat) (x0 : Nat) (x1 : Int32) (σ : wg_M) (hx0 : wg_t Sm x0 = 14) (h : f_X12_findsChained_2  n x0 x1 σ = some z), wg_G l E Sm "WornWigsModel" cX12_findsChained 3 (some .boolean) rm_X12_findsChained (some z.1) z.2 2 [some (.ref x0), some (.int x1), none] [] σ := by
  intro n
  induction n with
  | zero => intro x0 x1 σ hx0 h; cases h
  | succ n ih =>
    intro x0 x1 σ hx0 h
    refine wr_iload_n (wg_da dt_X12_findsChained 2 rfl) rfl ?_
    refine wr_bipush (14 : Int32) (wg_da dt_X12_findsChained 3 rfl) (by decide) ?_
    refine wr_icmp_ge 21 (wg_da dt_X12_findsChained 4 rfl) (by decide) h (fun h => ?_) (fun h => ?_)
    · refine wr_iconst (0 : Int32) (wg_da dt_X12_findsChained 12 rfl) (by decide) ?_
      refine wr_istore_n (wg_da dt_X12_findsChained 13 rfl) (by decide) ?_
      exact wr_wk [true, true, false] (g_X12_findsChained_23 l E  _  wg_N x0 (0 : Int32) σ hx0 h)
    · refine wr_aload_n (wg_da dt_X12_findsChained 5 rfl) rfl ?_
      refine wr_getR wf_X12_95 (wg_da dt_X12_findsChained 6 rfl) hx0 ?_
      refine wr_iload_n (wg_da dt_X12_findsChained 7 rfl) rfl ?_
      refine wr_iconst (1 : Int32) (wg_da dt_X12_findsChained 8 rfl) (by decide) ?_
      refine wr_iast (wg_da dt_X12_findsChained 9 rfl) (wg_ty Sm_ok 12 51 0 hx0 rfl (by decide)).2 h (fun s1 h => ?_)
      refine wr_iinc (c0 := (1 : Int32)) (wg_da dt_X12_findsChained 10 rfl) rfl (by decide) (by decide) h (fun v2 h => ?_)
      refine wr_goto 2 (wg_da dt_X12_findsChained 11 rfl) (by decide) ?_
      exact wr_wk [true, true, false] (ih x0 v2 s1 hx0 h)
set_option maxRecDepth 20000 in
theorem g_X12_findsChained_e (l : Launch) (E : wg_E)  (x0 : Nat) (σ : wg_M) (z : Int32 × wg_M) (hx0 : wg_t Sm x0 = 14) (h : f_X12_findsChained  x0 σ = some z) : wg_G l E Sm "WornWigsModel" cX12_findsChained 3 (some .boolean) rm_X12_findsChained (some z.1) z.2 0 [some (.ref x0), none, none] [] σ := by
  refine wr_iconst (0 : Int32) (wg_da dt_X12_findsChained 0 rfl) (by decide) ?_
  refine wr_istore_n (wg_da dt_X12_findsChained 1 rfl) (by decide) ?_
  exact wr_wk [true, true, false] (g_X12_findsChained_2 l E  _  wg_N x0 (0 : Int32) σ hx0 h)
theorem m_X12_findsChained (l : Launch) (E : wg_E) (x0 : Nat) (hx0 : wg_t Sm x0 = 14) (σ : wg_M) (q : Int32 × wg_M) (h : f_X12_findsChained x0 σ = some q) : wg_MG l E Sm yX12_findsChained cX12_findsChained 3 (some .boolean) rm_X12_findsChained [.ref x0] σ (some q.1) q.2 :=
  wg_met [.ref x0] (plainFor_of_name (by decide)) (Nat.le_of_ble_eq_true rfl) (g_X12_findsChained_e l E x0 σ q hx0 h)
abbrev rm_X12_chain : Room := { frames := 3, cells := 0, slots := 0, locals := 67 }
def tb_X12_chain : List (Nat × Instr × Nat) := [(0, .aload_n 0, 1), (1, .iconst 0, 1), (2, .putfield 113, 3), (5, .aload_n 0, 1), (6, .iload_n 1, 1), (7, .iconst 0, 1), (8, .iconst 1, 1), (9, .invokevirtual 153, 3), (12, .ifCond .ne 5, 3), (15, .iconst (-1), 1), (16, .ireturn, 1), (17, .aload_n 0, 1), (18, .getfield 484, 3), (21, .ifCond .ne 13, 3), (24, .iload_n 1, 1), (25, .ifCond .ne 7, 3), (28, .iconst 0, 1), (29, .goto 4, 3), (32, .iconst (-1), 1), (33, .ireturn, 1), (34, .aload_n 0, 1), (35, .invokevirtual 490, 3), (38, .ifCond .ne 5, 3), (41, .iconst (-1), 1), (42, .ireturn, 1), (43, .iconst 0, 1), (44, .istore_n 2, 1), (45, .iconst 1, 1), (46, .istore_n 3, 1), (47, .iload_n 3, 1), (48, .bipush 14, 2), (50, .if_icmp .ge 26, 3), (53, .aload_n 0, 1), (54, .getfield 95, 3), (57, .iload_n 3, 1), (58, .iaload, 1), (59, .aload_n 0, 1), (60, .getfield 95, 3), (63, .iload_n 2, 1), (64, .iaload, 1), (65, .if_icmp .le 5, 3), (68, .iload_n 3, 1), (69, .istore_n 2, 1), (70, .iinc 3 1, 3), (73, .goto (-26), 3), (76, .iload_n 1, 1), (77, .ifCond .ne 12, 3), (80, .aload_n 0, 1), (81, .getfield 95, 3), (84, .iload_n 2, 1), (85, .iaload, 1), (86, .goto 4, 3), (89, .iload_n 2, 1), (90, .ireturn, 1)]
theorem dt_X12_chain : wg_dc cX12_chain tb_X12_chain := by unfold wg_dc; decide +kernel
def f_X12_chain_70 (k47 : Nat → Int32 → Int32 → Int32 → wg_M → Option (Int32 × wg_M)) (x0 : Nat) (x1 : Int32) (x2 : Int32) (x3 : Int32) (σ : wg_M) : Option (Int32 × wg_M) := wg_let (x3 + (1 : Int32)) (fun v1 => k47 x0 x1 x2 v1 σ)
def f_X12_chain_47  : Nat → Nat → Int32 → Int32 → Int32 → wg_M → Option (Int32 × wg_M)
  | 0, _, _, _, _, _ => none
  | n + 1, x0, x1, x2, x3, σ => if (14 : Int32) ≤ x3 then (if x1 = 0 then (wg_ga (wg_n Sm (wg_r Sm x0 51)) (σ (wg_r Sm x0 51)) x2 (fun v1 => some (v1, σ))) else (some (x2, σ))) else (wg_ga (wg_n Sm (wg_r Sm x0 51)) (σ (wg_r Sm x0 51)) x3 (fun v2 => wg_ga (wg_n Sm (wg_r Sm x0 51)) (σ (wg_r Sm x0 51)) x2 (fun v3 => if v2 ≤ v3 then (f_X12_chain_70 (f_X12_chain_47  n) x0 x1 x2 x3 σ) else (f_X12_chain_70 (f_X12_chain_47  n) x0 x1 x3 x3 σ))))
def f_X12_chain  (x0 : Nat) (x1 : Int32) (σ : wg_M) : Option (Int32 × wg_M) := wg_st σ x0 0 (0 : Int32) (fun s1 => wg_bd (f_X12_isIn x0 x1 (0 : Int32) (1 : Int32) s1) (fun v2 s3 => if v2 = 0 then (some ((-1 : Int32), s3)) else (if (s3 x0 49) = 0 then (if x1 = 0 then (some ((0 : Int32), s3)) else (some ((-1 : Int32), s3))) else (wg_bd (f_X12_findsChained x0 s3) (fun v4 s5 => if v4 = 0 then (some ((-1 : Int32), s5)) else (f_X12_chain_47  wg_N x0 x1 (0 : Int32) (1 : Int32) s5))))))
set_option maxRecDepth 20000 in
theorem g_X12_chain_70 (l : Launch) (E : wg_E) (k47 : Nat → Int32 → Int32 → Int32 → wg_M → Option (Int32 × wg_M)) (x0 : Nat) (x1 : Int32) (x2 : Int32) (x3 : Int32) (σ : wg_M) (z : Int32 × wg_M) (hx0 : wg_t Sm x0 = 14) (hk47 : ∀ (x0 : Nat) (x1 : Int32) (x2 : Int32) (x3 : Int32) (σ : wg_M), wg_t Sm x0 = 14 → k47 x0 x1 x2 x3 σ = some z → wg_G l E Sm "WornWigsModel" cX12_chain 4 (some .int) rm_X12_chain (some z.1) z.2 47 [some (.ref x0), some (.int x1), some (.int x2), some (.int x3)] [] σ) (h : f_X12_chain_70 k47 x0 x1 x2 x3 σ = some z) : wg_G l E Sm "WornWigsModel" cX12_chain 4 (some .int) rm_X12_chain (some z.1) z.2 70 [some (.ref x0), some (.int x1), some (.int x2), some (.int x3)] [] σ := by
  refine wr_iinc (c0 := (1 : Int32)) (wg_da dt_X12_chain 43 rfl) rfl (by decide) (by decide) h (fun v1 h => ?_)
  refine wr_goto 47 (wg_da dt_X12_chain 44 rfl) (by decide) ?_
  exact wr_wk [true, true, true, true] (hk47 x0 x1 x2 v1 σ hx0 h)
set_option maxRecDepth 20000 in
theorem g_X12_chain_47 (l : Launch) (E : wg_E)  (z : Int32 × wg_M) : ∀ (n : Nat) (x0 : Nat) (x1 : Int32) (x2 : Int32) (x3 : Int32) (σ : wg_M) (hx0 : wg_t Sm x0 = 14) (h : f_X12_chain_47  n x0 x1 x2 x3 σ = some z), wg_G l E Sm "WornWigsModel" cX12_chain 4 (some .int) rm_X12_chain (some z.1) z.2 47 [some (.ref x0), some (.int x1), some (.int x2), some (.int x3)] [] σ := by
  intro n
  induction n with
  | zero => intro x0 x1 x2 x3 σ hx0 h; cases h
  | succ n ih =>
    intro x0 x1 x2 x3 σ hx0 h
    refine wr_iload_n (wg_da dt_X12_chain 29 rfl) rfl ?_
    refine wr_bipush (14 : Int32) (wg_da dt_X12_chain 30 rfl) (by decide) ?_
    refine wr_icmp_ge 76 (wg_da dt_X12_chain 31 rfl) (by decide) h (fun h => ?_) (fun h => ?_)
    · refine wr_iload_n (wg_da dt_X12_chain 45 rfl) rfl ?_
      refine wr_if_ne 89 (wg_da dt_X12_chain 46 rfl) (by decide) h (fun h => ?_) (fun h => ?_)
      · refine wr_aload_n (wg_da dt_X12_chain 47 rfl) rfl ?_
        refine wr_getR wf_X12_95 (wg_da dt_X12_chain 48 rfl) hx0 ?_
        refine wr_iload_n (wg_da dt_X12_chain 49 rfl) rfl ?_
        refine wr_iald (wg_da dt_X12_chain 50 rfl) (wg_ty Sm_ok 12 51 0 hx0 rfl (by decide)).2 h (fun v1 h => ?_)
        refine wr_goto 90 (wg_da dt_X12_chain 51 rfl) (by decide) ?_
        exact wr_iret (wg_da dt_X12_chain 53 rfl) h
      · refine wr_iload_n (wg_da dt_X12_chain 52 rfl) rfl ?_
        exact wr_iret (wg_da dt_X12_chain 53 rfl) h
    · refine wr_aload_n (wg_da dt_X12_chain 32 rfl) rfl ?_
      refine wr_getR wf_X12_95 (wg_da dt_X12_chain 33 rfl) hx0 ?_
      refine wr_iload_n (wg_da dt_X12_chain 34 rfl) rfl ?_
      refine wr_iald (wg_da dt_X12_chain 35 rfl) (wg_ty Sm_ok 12 51 0 hx0 rfl (by decide)).2 h (fun v2 h => ?_)
      refine wr_aload_n (wg_da dt_X12_chain 36 rfl) rfl ?_
      refine wr_getR wf_X12_95 (wg_da dt_X12_chain 37 rfl) hx0 ?_
      refine wr_iload_n (wg_da dt_X12_chain 38 rfl) rfl ?_
      refine wr_iald (wg_da dt_X12_chain 39 rfl) (wg_ty Sm_ok 12 51 0 hx0 rfl (by decide)).2 h (fun v3 h => ?_)
      refine wr_icmp_le 70 (wg_da dt_X12_chain 40 rfl) (by decide) h (fun h => ?_) (fun h => ?_)
      · exact wr_wk [true, true, true, true] (g_X12_chain_70 l E (f_X12_chain_47  n) x0 x1 x2 x3 σ _ hx0 (fun x0 x1 x2 x3 σ hx0 h => ih x0 x1 x2 x3 σ hx0 h) h)
      · refine wr_iload_n (wg_da dt_X12_chain 41 rfl) rfl ?_
        refine wr_istore_n (wg_da dt_X12_chain 42 rfl) (by decide) ?_
        exact wr_wk [true, true, true, true] (g_X12_chain_70 l E (f_X12_chain_47  n) x0 x1 x3 x3 σ _ hx0 (fun x0 x1 x2 x3 σ hx0 h => ih x0 x1 x2 x3 σ hx0 h) h)
set_option maxRecDepth 20000 in
theorem g_X12_chain_e (l : Launch) (E : wg_E)  (x0 : Nat) (x1 : Int32) (σ : wg_M) (z : Int32 × wg_M) (hx0 : wg_t Sm x0 = 14) (h : f_X12_chain  x0 x1 σ = some z) : wg_G l E Sm "WornWigsModel" cX12_chain 4 (some .int) rm_X12_chain (some z.1) z.2 0 [some (.ref x0), some (.int x1), none, none] [] σ := by
  refine wr_aload_n (wg_da dt_X12_chain 0 rfl) rfl ?_
  refine wr_iconst (0 : Int32) (wg_da dt_X12_chain 1 rfl) (by decide) ?_
  refine wr_putI wfp_X12_113 (wg_da dt_X12_chain 2 rfl) hx0 h (fun s1 h => ?_)
  refine wr_aload_n (wg_da dt_X12_chain 3 rfl) rfl ?_
  refine wr_iload_n (wg_da dt_X12_chain 4 rfl) rfl ?_
  refine wr_iconst (0 : Int32) (wg_da dt_X12_chain 5 rfl) (by decide) ?_
  refine wr_iconst (1 : Int32) (wg_da dt_X12_chain 6 rfl) (by decide) ?_
  refine wr_callVi [.int x1, .int (0 : Int32), .int (1 : Int32)] [] (wg_da dt_X12_chain 7 rfl) ⟨wq_7_82, wq_7_84, wq_p4_3⟩ hx0 ⟨rfl, by decide⟩ wy_X12_isIn (fun q hq => m_X12_isIn l E x0 x1 (0 : Int32) (1 : Int32) hx0 _ q hq) rfl rfl (Nat.le_of_ble_eq_true rfl) ⟨rfl, rfl, by decide, by decide⟩ h (fun v2 s3 h => ?_)
  refine wr_if_ne 17 (wg_da dt_X12_chain 8 rfl) (by decide) h (fun h => ?_) (fun h => ?_)
  · refine wr_iconst (-1 : Int32) (wg_da dt_X12_chain 9 rfl) (by decide) ?_
    exact wr_iret (wg_da dt_X12_chain 10 rfl) h
  · refine wr_aload_n (wg_da dt_X12_chain 11 rfl) rfl ?_
    refine wr_getI wf_X12_484 (wg_da dt_X12_chain 12 rfl) hx0 ?_
    refine wr_if_ne 34 (wg_da dt_X12_chain 13 rfl) (by decide) h (fun h => ?_) (fun h => ?_)
    · refine wr_iload_n (wg_da dt_X12_chain 14 rfl) rfl ?_
      refine wr_if_ne 32 (wg_da dt_X12_chain 15 rfl) (by decide) h (fun h => ?_) (fun h => ?_)
      · refine wr_iconst (0 : Int32) (wg_da dt_X12_chain 16 rfl) (by decide) ?_
        refine wr_goto 33 (wg_da dt_X12_chain 17 rfl) (by decide) ?_
        exact wr_iret (wg_da dt_X12_chain 19 rfl) h
      · refine wr_iconst (-1 : Int32) (wg_da dt_X12_chain 18 rfl) (by decide) ?_
        exact wr_iret (wg_da dt_X12_chain 19 rfl) h
    · refine wr_aload_n (wg_da dt_X12_chain 20 rfl) rfl ?_
      refine wr_callVi [] [] (wg_da dt_X12_chain 21 rfl) ⟨wq_9_106, wq_9_108, wq_p10_3⟩ hx0 ⟨rfl, by decide⟩ wy_X12_findsChained (fun q hq => m_X12_findsChained l E x0 hx0 _ q hq) rfl rfl (Nat.le_of_ble_eq_true rfl) ⟨rfl, rfl, by decide, by decide⟩ h (fun v4 s5 h => ?_)
      refine wr_if_ne 43 (wg_da dt_X12_chain 22 rfl) (by decide) h (fun h => ?_) (fun h => ?_)
      · refine wr_iconst (-1 : Int32) (wg_da dt_X12_chain 23 rfl) (by decide) ?_
        exact wr_iret (wg_da dt_X12_chain 24 rfl) h
      · refine wr_iconst (0 : Int32) (wg_da dt_X12_chain 25 rfl) (by decide) ?_
        refine wr_istore_n (wg_da dt_X12_chain 26 rfl) (by decide) ?_
        refine wr_iconst (1 : Int32) (wg_da dt_X12_chain 27 rfl) (by decide) ?_
        refine wr_istore_n (wg_da dt_X12_chain 28 rfl) (by decide) ?_
        exact wr_wk [true, true, true, true] (g_X12_chain_47 l E  _  wg_N x0 x1 (0 : Int32) (1 : Int32) s5 hx0 h)
theorem m_X12_chain (l : Launch) (E : wg_E) (x0 : Nat) (x1 : Int32) (hx0 : wg_t Sm x0 = 14) (σ : wg_M) (q : Int32 × wg_M) (h : f_X12_chain x0 x1 σ = some q) : wg_MG l E Sm yX12_chain cX12_chain 4 (some .int) rm_X12_chain [.ref x0, .int x1] σ (some q.1) q.2 :=
  wg_met [.ref x0, .int x1] (plainFor_of_name (by decide)) (Nat.le_of_ble_eq_true rfl) (g_X12_chain_e l E x0 x1 σ q hx0 h)
abbrev rm_X12_parcel : Room := { frames := 1, cells := 0, slots := 0, locals := 23 }
def tb_X12_parcel : List (Nat × Instr × Nat) := [(0, .aload_n 0, 1), (1, .iconst 0, 1), (2, .putfield 113, 3), (5, .aload_n 0, 1), (6, .iload_n 1, 1), (7, .iconst 0, 1), (8, .bipush 9, 2), (10, .invokevirtual 153, 3), (13, .ifCond .eq 24, 3), (16, .aload_n 0, 1), (17, .iload_n 2, 1), (18, .iconst 0, 1), (19, .iconst 1, 1), (20, .invokevirtual 153, 3), (23, .ifCond .eq 14, 3), (26, .aload_n 0, 1), (27, .iload_n 3, 1), (28, .iconst 0, 1), (29, .bipush 99, 2), (31, .invokevirtual 153, 3), (34, .ifCond .ne 5, 3), (37, .iconst 0, 1), (38, .ireturn, 1), (39, .aload_n 0, 1), (40, .getfield 98, 3), (43, .bipush 10, 2), (45, .iload_n 2, 1), (46, .imul, 1), (47, .iload_n 1, 1), (48, .iadd, 1), (49, .iload_n 3, 1), (50, .iastore, 1), (51, .iconst 1, 1), (52, .ireturn, 1)]
theorem dt_X12_parcel : wg_dc cX12_parcel tb_X12_parcel := by unfold wg_dc; decide +kernel
def f_X12_parcel  (x0 : Nat) (x1 : Int32) (x2 : Int32) (x3 : Int32) (σ : wg_M) : Option (Int32 × wg_M) := wg_st σ x0 0 (0 : Int32) (fun s1 => wg_bd (f_X12_isIn x0 x1 (0 : Int32) (9 : Int32) s1) (fun v2 s3 => if v2 = 0 then (some ((0 : Int32), s3)) else (wg_bd (f_X12_isIn x0 x2 (0 : Int32) (1 : Int32) s3) (fun v4 s5 => if v4 = 0 then (some ((0 : Int32), s5)) else (wg_bd (f_X12_isIn x0 x3 (0 : Int32) (99 : Int32) s5) (fun v6 s7 => if v6 = 0 then (some ((0 : Int32), s7)) else (wg_sa (wg_n Sm (wg_r Sm x0 52)) s7 (wg_r Sm x0 52) (((10 : Int32) * x2) + x1) x3 (fun s8 => some ((1 : Int32), s8)))))))))
set_option maxRecDepth 20000 in
theorem g_X12_parcel_e (l : Launch) (E : wg_E)  (x0 : Nat) (x1 : Int32) (x2 : Int32) (x3 : Int32) (σ : wg_M) (z : Int32 × wg_M) (hx0 : wg_t Sm x0 = 14) (h : f_X12_parcel  x0 x1 x2 x3 σ = some z) : wg_G l E Sm "WornWigsModel" cX12_parcel 4 (some .boolean) rm_X12_parcel (some z.1) z.2 0 [some (.ref x0), some (.int x1), some (.int x2), some (.int x3)] [] σ := by
  refine wr_aload_n (wg_da dt_X12_parcel 0 rfl) rfl ?_
  refine wr_iconst (0 : Int32) (wg_da dt_X12_parcel 1 rfl) (by decide) ?_
  refine wr_putI wfp_X12_113 (wg_da dt_X12_parcel 2 rfl) hx0 h (fun s1 h => ?_)
  refine wr_aload_n (wg_da dt_X12_parcel 3 rfl) rfl ?_
  refine wr_iload_n (wg_da dt_X12_parcel 4 rfl) rfl ?_
  refine wr_iconst (0 : Int32) (wg_da dt_X12_parcel 5 rfl) (by decide) ?_
  refine wr_bipush (9 : Int32) (wg_da dt_X12_parcel 6 rfl) (by decide) ?_
  refine wr_callVi [.int x1, .int (0 : Int32), .int (9 : Int32)] [] (wg_da dt_X12_parcel 7 rfl) ⟨wq_7_82, wq_7_84, wq_p4_3⟩ hx0 ⟨rfl, by decide⟩ wy_X12_isIn (fun q hq => m_X12_isIn l E x0 x1 (0 : Int32) (9 : Int32) hx0 _ q hq) rfl rfl (Nat.le_of_ble_eq_true rfl) ⟨rfl, rfl, by decide, by decide⟩ h (fun v2 s3 h => ?_)
  refine wr_if_eq 37 (wg_da dt_X12_parcel 8 rfl) (by decide) h (fun h => ?_) (fun h => ?_)
  · refine wr_iconst (0 : Int32) (wg_da dt_X12_parcel 21 rfl) (by decide) ?_
    exact wr_zret0 (wg_da dt_X12_parcel 22 rfl) h
  · refine wr_aload_n (wg_da dt_X12_parcel 9 rfl) rfl ?_
    refine wr_iload_n (wg_da dt_X12_parcel 10 rfl) rfl ?_
    refine wr_iconst (0 : Int32) (wg_da dt_X12_parcel 11 rfl) (by decide) ?_
    refine wr_iconst (1 : Int32) (wg_da dt_X12_parcel 12 rfl) (by decide) ?_
    refine wr_callVi [.int x2, .int (0 : Int32), .int (1 : Int32)] [] (wg_da dt_X12_parcel 13 rfl) ⟨wq_7_82, wq_7_84, wq_p4_3⟩ hx0 ⟨rfl, by decide⟩ wy_X12_isIn (fun q hq => m_X12_isIn l E x0 x2 (0 : Int32) (1 : Int32) hx0 _ q hq) rfl rfl (Nat.le_of_ble_eq_true rfl) ⟨rfl, rfl, by decide, by decide⟩ h (fun v4 s5 h => ?_)
    refine wr_if_eq 37 (wg_da dt_X12_parcel 14 rfl) (by decide) h (fun h => ?_) (fun h => ?_)
    · refine wr_iconst (0 : Int32) (wg_da dt_X12_parcel 21 rfl) (by decide) ?_
      exact wr_zret0 (wg_da dt_X12_parcel 22 rfl) h
    · refine wr_aload_n (wg_da dt_X12_parcel 15 rfl) rfl ?_
      refine wr_iload_n (wg_da dt_X12_parcel 16 rfl) rfl ?_
      refine wr_iconst (0 : Int32) (wg_da dt_X12_parcel 17 rfl) (by decide) ?_
      refine wr_bipush (99 : Int32) (wg_da dt_X12_parcel 18 rfl) (by decide) ?_
      refine wr_callVi [.int x3, .int (0 : Int32), .int (99 : Int32)] [] (wg_da dt_X12_parcel 19 rfl) ⟨wq_7_82, wq_7_84, wq_p4_3⟩ hx0 ⟨rfl, by decide⟩ wy_X12_isIn (fun q hq => m_X12_isIn l E x0 x3 (0 : Int32) (99 : Int32) hx0 _ q hq) rfl rfl (Nat.le_of_ble_eq_true rfl) ⟨rfl, rfl, by decide, by decide⟩ h (fun v6 s7 h => ?_)
      refine wr_if_ne 39 (wg_da dt_X12_parcel 20 rfl) (by decide) h (fun h => ?_) (fun h => ?_)
      · refine wr_iconst (0 : Int32) (wg_da dt_X12_parcel 21 rfl) (by decide) ?_
        exact wr_zret0 (wg_da dt_X12_parcel 22 rfl) h
      · refine wr_aload_n (wg_da dt_X12_parcel 23 rfl) rfl ?_
        refine wr_getR wf_X12_98 (wg_da dt_X12_parcel 24 rfl) hx0 ?_
        refine wr_bipush (10 : Int32) (wg_da dt_X12_parcel 25 rfl) (by decide) ?_
        refine wr_iload_n (wg_da dt_X12_parcel 26 rfl) rfl ?_
        refine wr_imul (wg_da dt_X12_parcel 27 rfl) ?_
        refine wr_iload_n (wg_da dt_X12_parcel 28 rfl) rfl ?_
        refine wr_iadd (wg_da dt_X12_parcel 29 rfl) ?_
        refine wr_iload_n (wg_da dt_X12_parcel 30 rfl) rfl ?_
        refine wr_iast (wg_da dt_X12_parcel 31 rfl) (wg_ty Sm_ok 12 52 0 hx0 rfl (by decide)).2 h (fun s8 h => ?_)
        refine wr_iconst (1 : Int32) (wg_da dt_X12_parcel 32 rfl) (by decide) ?_
        exact wr_zret1 (wg_da dt_X12_parcel 33 rfl) h
theorem m_X12_parcel (l : Launch) (E : wg_E) (x0 : Nat) (x1 : Int32) (x2 : Int32) (x3 : Int32) (hx0 : wg_t Sm x0 = 14) (σ : wg_M) (q : Int32 × wg_M) (h : f_X12_parcel x0 x1 x2 x3 σ = some q) : wg_MG l E Sm yX12_parcel cX12_parcel 4 (some .boolean) rm_X12_parcel [.ref x0, .int x1, .int x2, .int x3] σ (some q.1) q.2 :=
  wg_met [.ref x0, .int x1, .int x2, .int x3] (plainFor_of_name (by decide)) (Nat.le_of_ble_eq_true rfl) (g_X12_parcel_e l E x0 x1 x2 x3 σ q hx0 h)
abbrev rm_X12_worthOf : Room := { frames := 0, cells := 0, slots := 0, locals := 0 }
def tb_X12_worthOf : List (Nat × Instr × Nat) := [(0, .iconst 0, 1), (1, .istore 4, 2), (3, .iload_n 2, 1), (4, .istore 5, 2), (6, .iload 5, 2), (8, .iload_n 3, 1), (9, .if_icmp .ge 26, 3), (12, .iload 4, 2), (14, .aload_n 0, 1), (15, .getfield 98, 3), (18, .bipush 10, 2), (20, .iload_n 1, 1), (21, .imul, 1), (22, .iload 5, 2), (24, .iadd, 1), (25, .iaload, 1), (26, .iadd, 1), (27, .istore 4, 2), (29, .iinc 5 1, 3), (32, .goto (-26), 3), (35, .iload 4, 2), (37, .ireturn, 1)]
theorem dt_X12_worthOf : wg_dc cX12_worthOf tb_X12_worthOf := by unfold wg_dc; decide +kernel
def f_X12_worthOf_6  : Nat → Nat → Int32 → Int32 → Int32 → Int32 → wg_M → Option (Int32 × wg_M)
  | 0, _, _, _, _, _, _ => none
  | n + 1, x0, x1, x3, x4, x5, σ => if x3 ≤ x5 then (some (x4, σ)) else (wg_ga (wg_n Sm (wg_r Sm x0 52)) (σ (wg_r Sm x0 52)) (((10 : Int32) * x1) + x5) (fun v1 => wg_let (x4 + v1) (fun v2 => wg_let (x5 + (1 : Int32)) (fun v3 => f_X12_worthOf_6  n x0 x1 x3 v2 v3 σ))))
def f_X12_worthOf  (x0 : Nat) (x1 : Int32) (x2 : Int32) (x3 : Int32) (σ : wg_M) : Option (Int32 × wg_M) := f_X12_worthOf_6  wg_N x0 x1 x3 (0 : Int32) x2 σ
set_option maxRecDepth 20000 in
theorem g_X12_worthOf_6 (l : Launch) (E : wg_E)  (z : Int32 × wg_M) : ∀ (n : Nat) (x0 : Nat) (x1 : Int32) (x3 : Int32) (x4 : Int32) (x5 : Int32) (σ : wg_M) (hx0 : wg_t Sm x0 = 14) (h : f_X12_worthOf_6  n x0 x1 x3 x4 x5 σ = some z), wg_G l E Sm "WornWigsModel" cX12_worthOf 6 (some .int) rm_X12_worthOf (some z.1) z.2 6 [some (.ref x0), some (.int x1), none, some (.int x3), some (.int x4), some (.int x5)] [] σ := by
  intro n
  induction n with
  | zero => intro x0 x1 x3 x4 x5 σ hx0 h; cases h
  | succ n ih =>
    intro x0 x1 x3 x4 x5 σ hx0 h
    refine wr_iload (wg_da dt_X12_worthOf 4 rfl) rfl ?_
    refine wr_iload_n (wg_da dt_X12_worthOf 5 rfl) rfl ?_
    refine wr_icmp_ge 35 (wg_da dt_X12_worthOf 6 rfl) (by decide) h (fun h => ?_) (fun h => ?_)
    · refine wr_iload (wg_da dt_X12_worthOf 20 rfl) rfl ?_
      exact wr_iret (wg_da dt_X12_worthOf 21 rfl) h
    · refine wr_iload (wg_da dt_X12_worthOf 7 rfl) rfl ?_
      refine wr_aload_n (wg_da dt_X12_worthOf 8 rfl) rfl ?_
      refine wr_getR wf_X12_98 (wg_da dt_X12_worthOf 9 rfl) hx0 ?_
      refine wr_bipush (10 : Int32) (wg_da dt_X12_worthOf 10 rfl) (by decide) ?_
      refine wr_iload_n (wg_da dt_X12_worthOf 11 rfl) rfl ?_
      refine wr_imul (wg_da dt_X12_worthOf 12 rfl) ?_
      refine wr_iload (wg_da dt_X12_worthOf 13 rfl) rfl ?_
      refine wr_iadd (wg_da dt_X12_worthOf 14 rfl) ?_
      refine wr_iald (wg_da dt_X12_worthOf 15 rfl) (wg_ty Sm_ok 12 52 0 hx0 rfl (by decide)).2 h (fun v1 h => ?_)
      refine wr_iadd (wg_da dt_X12_worthOf 16 rfl) ?_
      refine wr_let h (fun v2 h => ?_)
      refine wr_istore (wg_da dt_X12_worthOf 17 rfl) (by decide) ?_
      refine wr_iinc (c0 := (1 : Int32)) (wg_da dt_X12_worthOf 18 rfl) rfl (by decide) (by decide) h (fun v3 h => ?_)
      refine wr_goto 6 (wg_da dt_X12_worthOf 19 rfl) (by decide) ?_
      exact wr_wk [true, true, false, true, true, true] (ih x0 x1 x3 v2 v3 σ hx0 h)
set_option maxRecDepth 20000 in
theorem g_X12_worthOf_e (l : Launch) (E : wg_E)  (x0 : Nat) (x1 : Int32) (x2 : Int32) (x3 : Int32) (σ : wg_M) (z : Int32 × wg_M) (hx0 : wg_t Sm x0 = 14) (h : f_X12_worthOf  x0 x1 x2 x3 σ = some z) : wg_G l E Sm "WornWigsModel" cX12_worthOf 6 (some .int) rm_X12_worthOf (some z.1) z.2 0 [some (.ref x0), some (.int x1), some (.int x2), some (.int x3), none, none] [] σ := by
  refine wr_iconst (0 : Int32) (wg_da dt_X12_worthOf 0 rfl) (by decide) ?_
  refine wr_istore (wg_da dt_X12_worthOf 1 rfl) (by decide) ?_
  refine wr_iload_n (wg_da dt_X12_worthOf 2 rfl) rfl ?_
  refine wr_istore (wg_da dt_X12_worthOf 3 rfl) (by decide) ?_
  exact wr_wk [true, true, false, true, true, true] (g_X12_worthOf_6 l E  _  wg_N x0 x1 x3 (0 : Int32) x2 σ hx0 h)
theorem m_X12_worthOf (l : Launch) (E : wg_E) (x0 : Nat) (x1 : Int32) (x2 : Int32) (x3 : Int32) (hx0 : wg_t Sm x0 = 14) (σ : wg_M) (q : Int32 × wg_M) (h : f_X12_worthOf x0 x1 x2 x3 σ = some q) : wg_MG l E Sm yX12_worthOf cX12_worthOf 6 (some .int) rm_X12_worthOf [.ref x0, .int x1, .int x2, .int x3] σ (some q.1) q.2 :=
  wg_met [.ref x0, .int x1, .int x2, .int x3] (plainFor_of_name (by decide)) (Nat.le_of_ble_eq_true rfl) (g_X12_worthOf_e l E x0 x1 x2 x3 σ q hx0 h)
abbrev rm_X12_lesserPart : Room := { frames := 1, cells := 0, slots := 0, locals := 25 }
def tb_X12_lesserPart : List (Nat × Instr × Nat) := [(0, .aload_n 0, 1), (1, .aload_n 0, 1), (2, .iconst 0, 1), (3, .iconst 0, 1), (4, .iload_n 1, 1), (5, .invokevirtual 493, 3), (8, .aload_n 0, 1), (9, .iconst 0, 1), (10, .iload_n 1, 1), (11, .bipush 10, 2), (13, .invokevirtual 493, 3), (16, .invokevirtual 146, 3), (19, .ireturn, 1)]
theorem dt_X12_lesserPart : wg_dc cX12_lesserPart tb_X12_lesserPart := by unfold wg_dc; decide +kernel
def f_X12_lesserPart  (x0 : Nat) (x1 : Int32) (σ : wg_M) : Option (Int32 × wg_M) := wg_bd (f_X12_worthOf x0 (0 : Int32) (0 : Int32) x1 σ) (fun v1 s2 => wg_bd (f_X12_worthOf x0 (0 : Int32) x1 (10 : Int32) s2) (fun v3 s4 => wg_bd (f_X12_lesser x0 v1 v3 s4) (fun v5 s6 => some (v5, s6))))
set_option maxRecDepth 20000 in
theorem g_X12_lesserPart_e (l : Launch) (E : wg_E)  (x0 : Nat) (x1 : Int32) (σ : wg_M) (z : Int32 × wg_M) (hx0 : wg_t Sm x0 = 14) (h : f_X12_lesserPart  x0 x1 σ = some z) : wg_G l E Sm "WornWigsModel" cX12_lesserPart 2 (some .int) rm_X12_lesserPart (some z.1) z.2 0 [some (.ref x0), some (.int x1)] [] σ := by
  refine wr_aload_n (wg_da dt_X12_lesserPart 0 rfl) rfl ?_
  refine wr_aload_n (wg_da dt_X12_lesserPart 1 rfl) rfl ?_
  refine wr_iconst (0 : Int32) (wg_da dt_X12_lesserPart 2 rfl) (by decide) ?_
  refine wr_iconst (0 : Int32) (wg_da dt_X12_lesserPart 3 rfl) (by decide) ?_
  refine wr_iload_n (wg_da dt_X12_lesserPart 4 rfl) rfl ?_
  refine wr_callVi [.int (0 : Int32), .int (0 : Int32), .int x1] [.ref x0] (wg_da dt_X12_lesserPart 5 rfl) ⟨wq_9_126, wq_9_128, wq_p10_6⟩ hx0 ⟨rfl, by decide⟩ wy_X12_worthOf (fun q hq => m_X12_worthOf l E x0 (0 : Int32) (0 : Int32) x1 hx0 _ q hq) rfl rfl (Nat.le_of_ble_eq_true rfl) ⟨rfl, rfl, by decide, by decide⟩ h (fun v1 s2 h => ?_)
  refine wr_aload_n (wg_da dt_X12_lesserPart 6 rfl) rfl ?_
  refine wr_iconst (0 : Int32) (wg_da dt_X12_lesserPart 7 rfl) (by decide) ?_
  refine wr_iload_n (wg_da dt_X12_lesserPart 8 rfl) rfl ?_
  refine wr_bipush (10 : Int32) (wg_da dt_X12_lesserPart 9 rfl) (by decide) ?_
  refine wr_callVi [.int (0 : Int32), .int x1, .int (10 : Int32)] [.int v1, .ref x0] (wg_da dt_X12_lesserPart 10 rfl) ⟨wq_9_126, wq_9_128, wq_p10_6⟩ hx0 ⟨rfl, by decide⟩ wy_X12_worthOf (fun q hq => m_X12_worthOf l E x0 (0 : Int32) x1 (10 : Int32) hx0 _ q hq) rfl rfl (Nat.le_of_ble_eq_true rfl) ⟨rfl, rfl, by decide, by decide⟩ h (fun v3 s4 h => ?_)
  refine wr_callVi [.int v1, .int v3] [] (wg_da dt_X12_lesserPart 11 rfl) ⟨wq_7_118, wq_7_120, wq_p4_9⟩ hx0 ⟨rfl, by decide⟩ wy_X12_lesser (fun q hq => m_X12_lesser l E x0 v1 v3 hx0 _ q hq) rfl rfl (Nat.le_of_ble_eq_true rfl) ⟨rfl, rfl, by decide, by decide⟩ h (fun v5 s6 h => ?_)
  exact wr_iret (wg_da dt_X12_lesserPart 12 rfl) h
theorem m_X12_lesserPart (l : Launch) (E : wg_E) (x0 : Nat) (x1 : Int32) (hx0 : wg_t Sm x0 = 14) (σ : wg_M) (q : Int32 × wg_M) (h : f_X12_lesserPart x0 x1 σ = some q) : wg_MG l E Sm yX12_lesserPart cX12_lesserPart 2 (some .int) rm_X12_lesserPart [.ref x0, .int x1] σ (some q.1) q.2 :=
  wg_met [.ref x0, .int x1] (plainFor_of_name (by decide)) (Nat.le_of_ble_eq_true rfl) (g_X12_lesserPart_e l E x0 x1 σ q hx0 h)
abbrev rm_X12_cut : Room := { frames := 2, cells := 0, slots := 0, locals := 46 }
def tb_X12_cut : List (Nat × Instr × Nat) := [(0, .aload_n 0, 1), (1, .iconst 0, 1), (2, .putfield 113, 3), (5, .aload_n 0, 1), (6, .iload_n 1, 1), (7, .iconst 0, 1), (8, .iconst 2, 1), (9, .invokevirtual 153, 3), (12, .ifCond .ne 5, 3), (15, .iconst (-1), 1), (16, .ireturn, 1), (17, .iconst 1, 1), (18, .istore_n 2, 1), (19, .iconst 2, 1), (20, .istore_n 3, 1), (21, .iload_n 3, 1), (22, .bipush 10, 2), (24, .if_icmp .ge 24, 3), (27, .aload_n 0, 1), (28, .iload_n 3, 1), (29, .invokevirtual 496, 3), (32, .aload_n 0, 1), (33, .iload_n 2, 1), (34, .invokevirtual 496, 3), (37, .if_icmp .le 5, 3), (40, .iload_n 3, 1), (41, .istore_n 2, 1), (42, .iinc 3 1, 3), (45, .goto (-24), 3), (48, .iload_n 1, 1), (49, .ifCond .ne 5, 3), (52, .iload_n 2, 1), (53, .ireturn, 1), (54, .aload_n 0, 1), (55, .iconst 1, 1), (56, .iconst 0, 1), (57, .iload_n 2, 1), (58, .invokevirtual 493, 3), (61, .aload_n 0, 1), (62, .iconst 1, 1), (63, .iload_n 2, 1), (64, .bipush 10, 2), (66, .invokevirtual 493, 3), (69, .if_icmp .lt 7, 3), (72, .iconst 1, 1), (73, .goto 4, 3), (76, .iconst 0, 1), (77, .istore_n 3, 1), (78, .iload_n 1, 1), (79, .iconst 1, 1), (80, .if_icmp .ne 26, 3), (83, .iload_n 3, 1), (84, .ifCond .eq 13, 3), (87, .aload_n 0, 1), (88, .iconst 1, 1), (89, .iconst 0, 1), (90, .iload_n 2, 1), (91, .invokevirtual 493, 3), (94, .goto 11, 3), (97, .aload_n 0, 1), (98, .iconst 1, 1), (99, .iload_n 2, 1), (100, .bipush 10, 2), (102, .invokevirtual 493, 3), (105, .ireturn, 1), (106, .iload_n 3, 1), (107, .ifCond .eq 14, 3), (110, .aload_n 0, 1), (111, .iconst 0, 1), (112, .iload_n 2, 1), (113, .bipush 10, 2), (115, .invokevirtual 493, 3), (118, .goto 10, 3), (121, .aload_n 0, 1), (122, .iconst 0, 1), (123, .iconst 0, 1), (124, .iload_n 2, 1), (125, .invokevirtual 493, 3), (128, .ireturn, 1)]
theorem dt_X12_cut : wg_dc cX12_cut tb_X12_cut := by unfold wg_dc; decide +kernel
def f_X12_cut_42 (k21 : Nat → Int32 → Int32 → Int32 → wg_M → Option (Int32 × wg_M)) (x0 : Nat) (x1 : Int32) (x2 : Int32) (x3 : Int32) (σ : wg_M) : Option (Int32 × wg_M) := wg_let (x3 + (1 : Int32)) (fun v1 => k21 x0 x1 x2 v1 σ)
def f_X12_cut_77  (x0 : Nat) (x1 : Int32) (x2 : Int32) (t0 : Int32) (σ : wg_M) : Option (Int32 × wg_M) := if x1 = (1 : Int32) then (if t0 = 0 then (wg_bd (f_X12_worthOf x0 (1 : Int32) x2 (10 : Int32) σ) (fun v5 s6 => some (v5, s6))) else (wg_bd (f_X12_worthOf x0 (1 : Int32) (0 : Int32) x2 σ) (fun v7 s8 => some (v7, s8)))) else (if t0 = 0 then (wg_bd (f_X12_worthOf x0 (0 : Int32) (0 : Int32) x2 σ) (fun v1 s2 => some (v1, s2))) else (wg_bd (f_X12_worthOf x0 (0 : Int32) x2 (10 : Int32) σ) (fun v3 s4 => some (v3, s4))))
def f_X12_cut_21  : Nat → Nat → Int32 → Int32 → Int32 → wg_M → Option (Int32 × wg_M)
  | 0, _, _, _, _, _ => none
  | n + 1, x0, x1, x2, x3, σ => if (10 : Int32) ≤ x3 then (if x1 = 0 then (some (x2, σ)) else (wg_bd (f_X12_worthOf x0 (1 : Int32) (0 : Int32) x2 σ) (fun v1 s2 => wg_bd (f_X12_worthOf x0 (1 : Int32) x2 (10 : Int32) s2) (fun v3 s4 => if v1 < v3 then (f_X12_cut_77  x0 x1 x2 (0 : Int32) s4) else (f_X12_cut_77  x0 x1 x2 (1 : Int32) s4))))) else (wg_bd (f_X12_lesserPart x0 x3 σ) (fun v5 s6 => wg_bd (f_X12_lesserPart x0 x2 s6) (fun v7 s8 => if v5 ≤ v7 then (f_X12_cut_42 (f_X12_cut_21  n) x0 x1 x2 x3 s8) else (f_X12_cut_42 (f_X12_cut_21  n) x0 x1 x3 x3 s8))))
def f_X12_cut  (x0 : Nat) (x1 : Int32) (σ : wg_M) : Option (Int32 × wg_M) := wg_st σ x0 0 (0 : Int32) (fun s1 => wg_bd (f_X12_isIn x0 x1 (0 : Int32) (2 : Int32) s1) (fun v2 s3 => if v2 = 0 then (some ((-1 : Int32), s3)) else (f_X12_cut_21  wg_N x0 x1 (1 : Int32) (2 : Int32) s3)))
set_option maxRecDepth 20000 in
theorem g_X12_cut_42 (l : Launch) (E : wg_E) (k21 : Nat → Int32 → Int32 → Int32 → wg_M → Option (Int32 × wg_M)) (x0 : Nat) (x1 : Int32) (x2 : Int32) (x3 : Int32) (σ : wg_M) (z : Int32 × wg_M) (hx0 : wg_t Sm x0 = 14) (hk21 : ∀ (x0 : Nat) (x1 : Int32) (x2 : Int32) (x3 : Int32) (σ : wg_M), wg_t Sm x0 = 14 → k21 x0 x1 x2 x3 σ = some z → wg_G l E Sm "WornWigsModel" cX12_cut 4 (some .int) rm_X12_cut (some z.1) z.2 21 [some (.ref x0), some (.int x1), some (.int x2), some (.int x3)] [] σ) (h : f_X12_cut_42 k21 x0 x1 x2 x3 σ = some z) : wg_G l E Sm "WornWigsModel" cX12_cut 4 (some .int) rm_X12_cut (some z.1) z.2 42 [some (.ref x0), some (.int x1), some (.int x2), some (.int x3)] [] σ := by
  refine wr_iinc (c0 := (1 : Int32)) (wg_da dt_X12_cut 27 rfl) rfl (by decide) (by decide) h (fun v1 h => ?_)
  refine wr_goto 21 (wg_da dt_X12_cut 28 rfl) (by decide) ?_
  exact wr_wk [true, true, true, true] (hk21 x0 x1 x2 v1 σ hx0 h)
set_option maxRecDepth 20000 in
theorem g_X12_cut_77 (l : Launch) (E : wg_E)  (x0 : Nat) (x1 : Int32) (x2 : Int32) (t0 : Int32) (σ : wg_M) (z : Int32 × wg_M) (hx0 : wg_t Sm x0 = 14) (h : f_X12_cut_77  x0 x1 x2 t0 σ = some z) : wg_G l E Sm "WornWigsModel" cX12_cut 4 (some .int) rm_X12_cut (some z.1) z.2 77 [some (.ref x0), some (.int x1), some (.int x2), none] [.int t0] σ := by
  refine wr_istore_n (wg_da dt_X12_cut 47 rfl) (by decide) ?_
  refine wr_iload_n (wg_da dt_X12_cut 48 rfl) rfl ?_
  refine wr_iconst (1 : Int32) (wg_da dt_X12_cut 49 rfl) (by decide) ?_
  refine wr_icmp_ne 106 (wg_da dt_X12_cut 50 rfl) (by decide) h (fun h => ?_) (fun h => ?_)
  · refine wr_iload_n (wg_da dt_X12_cut 51 rfl) rfl ?_
    refine wr_if_eq 97 (wg_da dt_X12_cut 52 rfl) (by decide) h (fun h => ?_) (fun h => ?_)
    · refine wr_aload_n (wg_da dt_X12_cut 59 rfl) rfl ?_
      refine wr_iconst (1 : Int32) (wg_da dt_X12_cut 60 rfl) (by decide) ?_
      refine wr_iload_n (wg_da dt_X12_cut 61 rfl) rfl ?_
      refine wr_bipush (10 : Int32) (wg_da dt_X12_cut 62 rfl) (by decide) ?_
      refine wr_callVi [.int (1 : Int32), .int x2, .int (10 : Int32)] [] (wg_da dt_X12_cut 63 rfl) ⟨wq_9_126, wq_9_128, wq_p10_6⟩ hx0 ⟨rfl, by decide⟩ wy_X12_worthOf (fun q hq => m_X12_worthOf l E x0 (1 : Int32) x2 (10 : Int32) hx0 _ q hq) rfl rfl (Nat.le_of_ble_eq_true rfl) ⟨rfl, rfl, by decide, by decide⟩ h (fun v5 s6 h => ?_)
      exact wr_iret (wg_da dt_X12_cut 64 rfl) h
    · refine wr_aload_n (wg_da dt_X12_cut 53 rfl) rfl ?_
      refine wr_iconst (1 : Int32) (wg_da dt_X12_cut 54 rfl) (by decide) ?_
      refine wr_iconst (0 : Int32) (wg_da dt_X12_cut 55 rfl) (by decide) ?_
      refine wr_iload_n (wg_da dt_X12_cut 56 rfl) rfl ?_
      refine wr_callVi [.int (1 : Int32), .int (0 : Int32), .int x2] [] (wg_da dt_X12_cut 57 rfl) ⟨wq_9_126, wq_9_128, wq_p10_6⟩ hx0 ⟨rfl, by decide⟩ wy_X12_worthOf (fun q hq => m_X12_worthOf l E x0 (1 : Int32) (0 : Int32) x2 hx0 _ q hq) rfl rfl (Nat.le_of_ble_eq_true rfl) ⟨rfl, rfl, by decide, by decide⟩ h (fun v7 s8 h => ?_)
      refine wr_goto 105 (wg_da dt_X12_cut 58 rfl) (by decide) ?_
      exact wr_iret (wg_da dt_X12_cut 64 rfl) h
  · refine wr_iload_n (wg_da dt_X12_cut 65 rfl) rfl ?_
    refine wr_if_eq 121 (wg_da dt_X12_cut 66 rfl) (by decide) h (fun h => ?_) (fun h => ?_)
    · refine wr_aload_n (wg_da dt_X12_cut 73 rfl) rfl ?_
      refine wr_iconst (0 : Int32) (wg_da dt_X12_cut 74 rfl) (by decide) ?_
      refine wr_iconst (0 : Int32) (wg_da dt_X12_cut 75 rfl) (by decide) ?_
      refine wr_iload_n (wg_da dt_X12_cut 76 rfl) rfl ?_
      refine wr_callVi [.int (0 : Int32), .int (0 : Int32), .int x2] [] (wg_da dt_X12_cut 77 rfl) ⟨wq_9_126, wq_9_128, wq_p10_6⟩ hx0 ⟨rfl, by decide⟩ wy_X12_worthOf (fun q hq => m_X12_worthOf l E x0 (0 : Int32) (0 : Int32) x2 hx0 _ q hq) rfl rfl (Nat.le_of_ble_eq_true rfl) ⟨rfl, rfl, by decide, by decide⟩ h (fun v1 s2 h => ?_)
      exact wr_iret (wg_da dt_X12_cut 78 rfl) h
    · refine wr_aload_n (wg_da dt_X12_cut 67 rfl) rfl ?_
      refine wr_iconst (0 : Int32) (wg_da dt_X12_cut 68 rfl) (by decide) ?_
      refine wr_iload_n (wg_da dt_X12_cut 69 rfl) rfl ?_
      refine wr_bipush (10 : Int32) (wg_da dt_X12_cut 70 rfl) (by decide) ?_
      refine wr_callVi [.int (0 : Int32), .int x2, .int (10 : Int32)] [] (wg_da dt_X12_cut 71 rfl) ⟨wq_9_126, wq_9_128, wq_p10_6⟩ hx0 ⟨rfl, by decide⟩ wy_X12_worthOf (fun q hq => m_X12_worthOf l E x0 (0 : Int32) x2 (10 : Int32) hx0 _ q hq) rfl rfl (Nat.le_of_ble_eq_true rfl) ⟨rfl, rfl, by decide, by decide⟩ h (fun v3 s4 h => ?_)
      refine wr_goto 128 (wg_da dt_X12_cut 72 rfl) (by decide) ?_
      exact wr_iret (wg_da dt_X12_cut 78 rfl) h
set_option maxRecDepth 20000 in
theorem g_X12_cut_21 (l : Launch) (E : wg_E)  (z : Int32 × wg_M) : ∀ (n : Nat) (x0 : Nat) (x1 : Int32) (x2 : Int32) (x3 : Int32) (σ : wg_M) (hx0 : wg_t Sm x0 = 14) (h : f_X12_cut_21  n x0 x1 x2 x3 σ = some z), wg_G l E Sm "WornWigsModel" cX12_cut 4 (some .int) rm_X12_cut (some z.1) z.2 21 [some (.ref x0), some (.int x1), some (.int x2), some (.int x3)] [] σ := by
  intro n
  induction n with
  | zero => intro x0 x1 x2 x3 σ hx0 h; cases h
  | succ n ih =>
    intro x0 x1 x2 x3 σ hx0 h
    refine wr_iload_n (wg_da dt_X12_cut 15 rfl) rfl ?_
    refine wr_bipush (10 : Int32) (wg_da dt_X12_cut 16 rfl) (by decide) ?_
    refine wr_icmp_ge 48 (wg_da dt_X12_cut 17 rfl) (by decide) h (fun h => ?_) (fun h => ?_)
    · refine wr_iload_n (wg_da dt_X12_cut 29 rfl) rfl ?_
      refine wr_if_ne 54 (wg_da dt_X12_cut 30 rfl) (by decide) h (fun h => ?_) (fun h => ?_)
      · refine wr_iload_n (wg_da dt_X12_cut 31 rfl) rfl ?_
        exact wr_iret (wg_da dt_X12_cut 32 rfl) h
      · refine wr_aload_n (wg_da dt_X12_cut 33 rfl) rfl ?_
        refine wr_iconst (1 : Int32) (wg_da dt_X12_cut 34 rfl) (by decide) ?_
        refine wr_iconst (0 : Int32) (wg_da dt_X12_cut 35 rfl) (by decide) ?_
        refine wr_iload_n (wg_da dt_X12_cut 36 rfl) rfl ?_
        refine wr_callVi [.int (1 : Int32), .int (0 : Int32), .int x2] [] (wg_da dt_X12_cut 37 rfl) ⟨wq_9_126, wq_9_128, wq_p10_6⟩ hx0 ⟨rfl, by decide⟩ wy_X12_worthOf (fun q hq => m_X12_worthOf l E x0 (1 : Int32) (0 : Int32) x2 hx0 _ q hq) rfl rfl (Nat.le_of_ble_eq_true rfl) ⟨rfl, rfl, by decide, by decide⟩ h (fun v1 s2 h => ?_)
        refine wr_aload_n (wg_da dt_X12_cut 38 rfl) rfl ?_
        refine wr_iconst (1 : Int32) (wg_da dt_X12_cut 39 rfl) (by decide) ?_
        refine wr_iload_n (wg_da dt_X12_cut 40 rfl) rfl ?_
        refine wr_bipush (10 : Int32) (wg_da dt_X12_cut 41 rfl) (by decide) ?_
        refine wr_callVi [.int (1 : Int32), .int x2, .int (10 : Int32)] [.int v1] (wg_da dt_X12_cut 42 rfl) ⟨wq_9_126, wq_9_128, wq_p10_6⟩ hx0 ⟨rfl, by decide⟩ wy_X12_worthOf (fun q hq => m_X12_worthOf l E x0 (1 : Int32) x2 (10 : Int32) hx0 _ q hq) rfl rfl (Nat.le_of_ble_eq_true rfl) ⟨rfl, rfl, by decide, by decide⟩ h (fun v3 s4 h => ?_)
        refine wr_icmp_lt 76 (wg_da dt_X12_cut 43 rfl) (by decide) h (fun h => ?_) (fun h => ?_)
        · refine wr_iconst (0 : Int32) (wg_da dt_X12_cut 46 rfl) (by decide) ?_
          exact wr_wk [true, true, true, false] (g_X12_cut_77 l E  x0 x1 x2 (0 : Int32) s4 _ hx0  h)
        · refine wr_iconst (1 : Int32) (wg_da dt_X12_cut 44 rfl) (by decide) ?_
          refine wr_goto 77 (wg_da dt_X12_cut 45 rfl) (by decide) ?_
          exact wr_wk [true, true, true, false] (g_X12_cut_77 l E  x0 x1 x2 (1 : Int32) s4 _ hx0  h)
    · refine wr_aload_n (wg_da dt_X12_cut 18 rfl) rfl ?_
      refine wr_iload_n (wg_da dt_X12_cut 19 rfl) rfl ?_
      refine wr_callVi [.int x3] [] (wg_da dt_X12_cut 20 rfl) ⟨wq_9_122, wq_9_124, wq_p10_5⟩ hx0 ⟨rfl, by decide⟩ wy_X12_lesserPart (fun q hq => m_X12_lesserPart l E x0 x3 hx0 _ q hq) rfl rfl (Nat.le_of_ble_eq_true rfl) ⟨rfl, rfl, by decide, by decide⟩ h (fun v5 s6 h => ?_)
      refine wr_aload_n (wg_da dt_X12_cut 21 rfl) rfl ?_
      refine wr_iload_n (wg_da dt_X12_cut 22 rfl) rfl ?_
      refine wr_callVi [.int x2] [.int v5] (wg_da dt_X12_cut 23 rfl) ⟨wq_9_122, wq_9_124, wq_p10_5⟩ hx0 ⟨rfl, by decide⟩ wy_X12_lesserPart (fun q hq => m_X12_lesserPart l E x0 x2 hx0 _ q hq) rfl rfl (Nat.le_of_ble_eq_true rfl) ⟨rfl, rfl, by decide, by decide⟩ h (fun v7 s8 h => ?_)
      refine wr_icmp_le 42 (wg_da dt_X12_cut 24 rfl) (by decide) h (fun h => ?_) (fun h => ?_)
      · exact wr_wk [true, true, true, true] (g_X12_cut_42 l E (f_X12_cut_21  n) x0 x1 x2 x3 s8 _ hx0 (fun x0 x1 x2 x3 σ hx0 h => ih x0 x1 x2 x3 σ hx0 h) h)
      · refine wr_iload_n (wg_da dt_X12_cut 25 rfl) rfl ?_
        refine wr_istore_n (wg_da dt_X12_cut 26 rfl) (by decide) ?_
        exact wr_wk [true, true, true, true] (g_X12_cut_42 l E (f_X12_cut_21  n) x0 x1 x3 x3 s8 _ hx0 (fun x0 x1 x2 x3 σ hx0 h => ih x0 x1 x2 x3 σ hx0 h) h)
set_option maxRecDepth 20000 in
theorem g_X12_cut_e (l : Launch) (E : wg_E)  (x0 : Nat) (x1 : Int32) (σ : wg_M) (z : Int32 × wg_M) (hx0 : wg_t Sm x0 = 14) (h : f_X12_cut  x0 x1 σ = some z) : wg_G l E Sm "WornWigsModel" cX12_cut 4 (some .int) rm_X12_cut (some z.1) z.2 0 [some (.ref x0), some (.int x1), none, none] [] σ := by
  refine wr_aload_n (wg_da dt_X12_cut 0 rfl) rfl ?_
  refine wr_iconst (0 : Int32) (wg_da dt_X12_cut 1 rfl) (by decide) ?_
  refine wr_putI wfp_X12_113 (wg_da dt_X12_cut 2 rfl) hx0 h (fun s1 h => ?_)
  refine wr_aload_n (wg_da dt_X12_cut 3 rfl) rfl ?_
  refine wr_iload_n (wg_da dt_X12_cut 4 rfl) rfl ?_
  refine wr_iconst (0 : Int32) (wg_da dt_X12_cut 5 rfl) (by decide) ?_
  refine wr_iconst (2 : Int32) (wg_da dt_X12_cut 6 rfl) (by decide) ?_
  refine wr_callVi [.int x1, .int (0 : Int32), .int (2 : Int32)] [] (wg_da dt_X12_cut 7 rfl) ⟨wq_7_82, wq_7_84, wq_p4_3⟩ hx0 ⟨rfl, by decide⟩ wy_X12_isIn (fun q hq => m_X12_isIn l E x0 x1 (0 : Int32) (2 : Int32) hx0 _ q hq) rfl rfl (Nat.le_of_ble_eq_true rfl) ⟨rfl, rfl, by decide, by decide⟩ h (fun v2 s3 h => ?_)
  refine wr_if_ne 17 (wg_da dt_X12_cut 8 rfl) (by decide) h (fun h => ?_) (fun h => ?_)
  · refine wr_iconst (-1 : Int32) (wg_da dt_X12_cut 9 rfl) (by decide) ?_
    exact wr_iret (wg_da dt_X12_cut 10 rfl) h
  · refine wr_iconst (1 : Int32) (wg_da dt_X12_cut 11 rfl) (by decide) ?_
    refine wr_istore_n (wg_da dt_X12_cut 12 rfl) (by decide) ?_
    refine wr_iconst (2 : Int32) (wg_da dt_X12_cut 13 rfl) (by decide) ?_
    refine wr_istore_n (wg_da dt_X12_cut 14 rfl) (by decide) ?_
    exact wr_wk [true, true, true, true] (g_X12_cut_21 l E  _  wg_N x0 x1 (1 : Int32) (2 : Int32) s3 hx0 h)
theorem m_X12_cut (l : Launch) (E : wg_E) (x0 : Nat) (x1 : Int32) (hx0 : wg_t Sm x0 = 14) (σ : wg_M) (q : Int32 × wg_M) (h : f_X12_cut x0 x1 σ = some q) : wg_MG l E Sm yX12_cut cX12_cut 4 (some .int) rm_X12_cut [.ref x0, .int x1] σ (some q.1) q.2 :=
  wg_met [.ref x0, .int x1] (plainFor_of_name (by decide)) (Nat.le_of_ble_eq_true rfl) (g_X12_cut_e l E x0 x1 σ q hx0 h)
abbrev rm_X12_hard : Room := { frames := 1, cells := 0, slots := 0, locals := 23 }
def tb_X12_hard : List (Nat × Instr × Nat) := [(0, .aload_n 0, 1), (1, .iconst 0, 1), (2, .putfield 113, 3), (5, .iload_n 1, 1), (6, .iconst (-1), 1), (7, .if_icmp .ne 10, 3), (10, .aload_n 0, 1), (11, .iconst 0, 1), (12, .putfield 499, 3), (15, .iconst 0, 1), (16, .ireturn, 1), (17, .aload_n 0, 1), (18, .iload_n 1, 1), (19, .iconst 1, 1), (20, .bipush 24, 2), (22, .invokevirtual 153, 3), (25, .ifCond .eq 23, 3), (28, .aload_n 0, 1), (29, .iload_n 2, 1), (30, .iconst 0, 1), (31, .bipush 99, 2), (33, .invokevirtual 153, 3), (36, .ifCond .eq 12, 3), (39, .aload_n 0, 1), (40, .getfield 499, 3), (43, .bipush 7, 2), (45, .if_icmp .ne 5, 3), (48, .iconst (-1), 1), (49, .ireturn, 1), (50, .aload_n 0, 1), (51, .getfield 101, 3), (54, .aload_n 0, 1), (55, .getfield 499, 3), (58, .iload_n 1, 1), (59, .iastore, 1), (60, .aload_n 0, 1), (61, .getfield 104, 3), (64, .aload_n 0, 1), (65, .getfield 499, 3), (68, .iload_n 2, 1), (69, .iastore, 1), (70, .aload_n 0, 1), (71, .aload_n 0, 1), (72, .getfield 499, 3), (75, .iconst 1, 1), (76, .iadd, 1), (77, .putfield 499, 3), (80, .aload_n 0, 1), (81, .getfield 499, 3), (84, .ireturn, 1)]
theorem dt_X12_hard : wg_dc cX12_hard tb_X12_hard := by unfold wg_dc; decide +kernel
def f_X12_hard  (x0 : Nat) (x1 : Int32) (x2 : Int32) (σ : wg_M) : Option (Int32 × wg_M) := wg_st σ x0 0 (0 : Int32) (fun s1 => if x1 = (-1 : Int32) then (wg_st s1 x0 53 (0 : Int32) (fun s9 => some ((0 : Int32), s9))) else (wg_bd (f_X12_isIn x0 x1 (1 : Int32) (24 : Int32) s1) (fun v2 s3 => if v2 = 0 then (some ((-1 : Int32), s3)) else (wg_bd (f_X12_isIn x0 x2 (0 : Int32) (99 : Int32) s3) (fun v4 s5 => if v4 = 0 then (some ((-1 : Int32), s5)) else (if (s5 x0 53) = (7 : Int32) then (some ((-1 : Int32), s5)) else (wg_sa (wg_n Sm (wg_r Sm x0 54)) s5 (wg_r Sm x0 54) (s5 x0 53) x1 (fun s6 => wg_sa (wg_n Sm (wg_r Sm x0 55)) s6 (wg_r Sm x0 55) (s6 x0 53) x2 (fun s7 => wg_st s7 x0 53 ((s7 x0 53) + (1 : Int32)) (fun s8 => some (s8 x0 53, s8)))))))))))
set_option maxRecDepth 20000 in
theorem g_X12_hard_e (l : Launch) (E : wg_E)  (x0 : Nat) (x1 : Int32) (x2 : Int32) (σ : wg_M) (z : Int32 × wg_M) (hx0 : wg_t Sm x0 = 14) (h : f_X12_hard  x0 x1 x2 σ = some z) : wg_G l E Sm "WornWigsModel" cX12_hard 3 (some .int) rm_X12_hard (some z.1) z.2 0 [some (.ref x0), some (.int x1), some (.int x2)] [] σ := by
  refine wr_aload_n (wg_da dt_X12_hard 0 rfl) rfl ?_
  refine wr_iconst (0 : Int32) (wg_da dt_X12_hard 1 rfl) (by decide) ?_
  refine wr_putI wfp_X12_113 (wg_da dt_X12_hard 2 rfl) hx0 h (fun s1 h => ?_)
  refine wr_iload_n (wg_da dt_X12_hard 3 rfl) rfl ?_
  refine wr_iconst (-1 : Int32) (wg_da dt_X12_hard 4 rfl) (by decide) ?_
  refine wr_icmp_ne 17 (wg_da dt_X12_hard 5 rfl) (by decide) h (fun h => ?_) (fun h => ?_)
  · refine wr_aload_n (wg_da dt_X12_hard 6 rfl) rfl ?_
    refine wr_iconst (0 : Int32) (wg_da dt_X12_hard 7 rfl) (by decide) ?_
    refine wr_putI wfp_X12_499 (wg_da dt_X12_hard 8 rfl) hx0 h (fun s9 h => ?_)
    refine wr_iconst (0 : Int32) (wg_da dt_X12_hard 9 rfl) (by decide) ?_
    exact wr_iret (wg_da dt_X12_hard 10 rfl) h
  · refine wr_aload_n (wg_da dt_X12_hard 11 rfl) rfl ?_
    refine wr_iload_n (wg_da dt_X12_hard 12 rfl) rfl ?_
    refine wr_iconst (1 : Int32) (wg_da dt_X12_hard 13 rfl) (by decide) ?_
    refine wr_bipush (24 : Int32) (wg_da dt_X12_hard 14 rfl) (by decide) ?_
    refine wr_callVi [.int x1, .int (1 : Int32), .int (24 : Int32)] [] (wg_da dt_X12_hard 15 rfl) ⟨wq_7_82, wq_7_84, wq_p4_3⟩ hx0 ⟨rfl, by decide⟩ wy_X12_isIn (fun q hq => m_X12_isIn l E x0 x1 (1 : Int32) (24 : Int32) hx0 _ q hq) rfl rfl (Nat.le_of_ble_eq_true rfl) ⟨rfl, rfl, by decide, by decide⟩ h (fun v2 s3 h => ?_)
    refine wr_if_eq 48 (wg_da dt_X12_hard 16 rfl) (by decide) h (fun h => ?_) (fun h => ?_)
    · refine wr_iconst (-1 : Int32) (wg_da dt_X12_hard 27 rfl) (by decide) ?_
      exact wr_iret (wg_da dt_X12_hard 28 rfl) h
    · refine wr_aload_n (wg_da dt_X12_hard 17 rfl) rfl ?_
      refine wr_iload_n (wg_da dt_X12_hard 18 rfl) rfl ?_
      refine wr_iconst (0 : Int32) (wg_da dt_X12_hard 19 rfl) (by decide) ?_
      refine wr_bipush (99 : Int32) (wg_da dt_X12_hard 20 rfl) (by decide) ?_
      refine wr_callVi [.int x2, .int (0 : Int32), .int (99 : Int32)] [] (wg_da dt_X12_hard 21 rfl) ⟨wq_7_82, wq_7_84, wq_p4_3⟩ hx0 ⟨rfl, by decide⟩ wy_X12_isIn (fun q hq => m_X12_isIn l E x0 x2 (0 : Int32) (99 : Int32) hx0 _ q hq) rfl rfl (Nat.le_of_ble_eq_true rfl) ⟨rfl, rfl, by decide, by decide⟩ h (fun v4 s5 h => ?_)
      refine wr_if_eq 48 (wg_da dt_X12_hard 22 rfl) (by decide) h (fun h => ?_) (fun h => ?_)
      · refine wr_iconst (-1 : Int32) (wg_da dt_X12_hard 27 rfl) (by decide) ?_
        exact wr_iret (wg_da dt_X12_hard 28 rfl) h
      · refine wr_aload_n (wg_da dt_X12_hard 23 rfl) rfl ?_
        refine wr_getI wf_X12_499 (wg_da dt_X12_hard 24 rfl) hx0 ?_
        refine wr_bipush (7 : Int32) (wg_da dt_X12_hard 25 rfl) (by decide) ?_
        refine wr_icmp_ne 50 (wg_da dt_X12_hard 26 rfl) (by decide) h (fun h => ?_) (fun h => ?_)
        · refine wr_iconst (-1 : Int32) (wg_da dt_X12_hard 27 rfl) (by decide) ?_
          exact wr_iret (wg_da dt_X12_hard 28 rfl) h
        · refine wr_aload_n (wg_da dt_X12_hard 29 rfl) rfl ?_
          refine wr_getR wf_X12_101 (wg_da dt_X12_hard 30 rfl) hx0 ?_
          refine wr_aload_n (wg_da dt_X12_hard 31 rfl) rfl ?_
          refine wr_getI wf_X12_499 (wg_da dt_X12_hard 32 rfl) hx0 ?_
          refine wr_iload_n (wg_da dt_X12_hard 33 rfl) rfl ?_
          refine wr_iast (wg_da dt_X12_hard 34 rfl) (wg_ty Sm_ok 12 54 0 hx0 rfl (by decide)).2 h (fun s6 h => ?_)
          refine wr_aload_n (wg_da dt_X12_hard 35 rfl) rfl ?_
          refine wr_getR wf_X12_104 (wg_da dt_X12_hard 36 rfl) hx0 ?_
          refine wr_aload_n (wg_da dt_X12_hard 37 rfl) rfl ?_
          refine wr_getI wf_X12_499 (wg_da dt_X12_hard 38 rfl) hx0 ?_
          refine wr_iload_n (wg_da dt_X12_hard 39 rfl) rfl ?_
          refine wr_iast (wg_da dt_X12_hard 40 rfl) (wg_ty Sm_ok 12 55 0 hx0 rfl (by decide)).2 h (fun s7 h => ?_)
          refine wr_aload_n (wg_da dt_X12_hard 41 rfl) rfl ?_
          refine wr_aload_n (wg_da dt_X12_hard 42 rfl) rfl ?_
          refine wr_getI wf_X12_499 (wg_da dt_X12_hard 43 rfl) hx0 ?_
          refine wr_iconst (1 : Int32) (wg_da dt_X12_hard 44 rfl) (by decide) ?_
          refine wr_iadd (wg_da dt_X12_hard 45 rfl) ?_
          refine wr_putI wfp_X12_499 (wg_da dt_X12_hard 46 rfl) hx0 h (fun s8 h => ?_)
          refine wr_aload_n (wg_da dt_X12_hard 47 rfl) rfl ?_
          refine wr_getI wf_X12_499 (wg_da dt_X12_hard 48 rfl) hx0 ?_
          exact wr_iret (wg_da dt_X12_hard 49 rfl) h
theorem m_X12_hard (l : Launch) (E : wg_E) (x0 : Nat) (x1 : Int32) (x2 : Int32) (hx0 : wg_t Sm x0 = 14) (σ : wg_M) (q : Int32 × wg_M) (h : f_X12_hard x0 x1 x2 σ = some q) : wg_MG l E Sm yX12_hard cX12_hard 3 (some .int) rm_X12_hard [.ref x0, .int x1, .int x2] σ (some q.1) q.2 :=
  wg_met [.ref x0, .int x1, .int x2] (plainFor_of_name (by decide)) (Nat.le_of_ble_eq_true rfl) (g_X12_hard_e l E x0 x1 x2 σ q hx0 h)
abbrev rm_X12_lateBy : Room := { frames := 1, cells := 0, slots := 0, locals := 22 }
def tb_X12_lateBy : List (Nat × Instr × Nat) := [(0, .aload_n 0, 1), (1, .getfield 101, 3), (4, .iload_n 2, 1), (5, .iaload, 1), (6, .istore_n 3, 1), (7, .iconst 0, 1), (8, .istore 4, 2), (10, .iload 4, 2), (12, .aload_n 0, 1), (13, .getfield 499, 3), (16, .if_icmp .ge 29, 3), (19, .aload_n 0, 1), (20, .iload_n 1, 1), (21, .iload 4, 2), (23, .invokevirtual 441, 3), (26, .ifCond .eq 13, 3), (29, .iload_n 3, 1), (30, .aload_n 0, 1), (31, .getfield 101, 3), (34, .iload 4, 2), (36, .iaload, 1), (37, .iadd, 1), (38, .istore_n 3, 1), (39, .iinc 4 1, 3), (42, .goto (-32), 3), (45, .aload_n 0, 1), (46, .iload_n 3, 1), (47, .aload_n 0, 1), (48, .getfield 104, 3), (51, .iload_n 2, 1), (52, .iaload, 1), (53, .isub, 1), (54, .aload_n 0, 1), (55, .getfield 107, 3), (58, .iload_n 1, 1), (59, .iconst 1, 1), (60, .iload_n 2, 1), (61, .ishl, 1), (62, .ior, 1), (63, .iaload, 1), (64, .invokevirtual 345, 3), (67, .ireturn, 1)]
theorem dt_X12_lateBy : wg_dc cX12_lateBy tb_X12_lateBy := by unfold wg_dc; decide +kernel
def f_X12_lateBy_39 (k10 : Nat → Int32 → Int32 → Int32 → Int32 → wg_M → Option (Int32 × wg_M)) (x0 : Nat) (x1 : Int32) (x2 : Int32) (x3 : Int32) (x4 : Int32) (σ : wg_M) : Option (Int32 × wg_M) := wg_let (x4 + (1 : Int32)) (fun v1 => k10 x0 x1 x2 x3 v1 σ)
def f_X12_lateBy_10  : Nat → Nat → Int32 → Int32 → Int32 → Int32 → wg_M → Option (Int32 × wg_M)
  | 0, _, _, _, _, _, _ => none
  | n + 1, x0, x1, x2, x3, x4, σ => if (σ x0 53) ≤ x4 then (wg_ga (wg_n Sm (wg_r Sm x0 55)) (σ (wg_r Sm x0 55)) x2 (fun v1 => wg_ga (wg_n Sm (wg_r Sm x0 56)) (σ (wg_r Sm x0 56)) (x1 ||| ((1 : Int32) <<< (x2 &&& 31))) (fun v2 => wg_bd (f_X12_greater x0 (x3 - v1) v2 σ) (fun v3 s4 => some (v3, s4))))) else (wg_bd (f_X12_has x0 x1 x4 σ) (fun v5 s6 => if v5 = 0 then (f_X12_lateBy_39 (f_X12_lateBy_10  n) x0 x1 x2 x3 x4 s6) else (wg_ga (wg_n Sm (wg_r Sm x0 54)) (s6 (wg_r Sm x0 54)) x4 (fun v7 => wg_let (x3 + v7) (fun v8 => f_X12_lateBy_39 (f_X12_lateBy_10  n) x0 x1 x2 v8 x4 s6)))))
def f_X12_lateBy  (x0 : Nat) (x1 : Int32) (x2 : Int32) (σ : wg_M) : Option (Int32 × wg_M) := wg_ga (wg_n Sm (wg_r Sm x0 54)) (σ (wg_r Sm x0 54)) x2 (fun v1 => f_X12_lateBy_10  wg_N x0 x1 x2 v1 (0 : Int32) σ)
set_option maxRecDepth 20000 in
theorem g_X12_lateBy_39 (l : Launch) (E : wg_E) (k10 : Nat → Int32 → Int32 → Int32 → Int32 → wg_M → Option (Int32 × wg_M)) (x0 : Nat) (x1 : Int32) (x2 : Int32) (x3 : Int32) (x4 : Int32) (σ : wg_M) (z : Int32 × wg_M) (hx0 : wg_t Sm x0 = 14) (hk10 : ∀ (x0 : Nat) (x1 : Int32) (x2 : Int32) (x3 : Int32) (x4 : Int32) (σ : wg_M), wg_t Sm x0 = 14 → k10 x0 x1 x2 x3 x4 σ = some z → wg_G l E Sm "WornWigsModel" cX12_lateBy 5 (some .int) rm_X12_lateBy (some z.1) z.2 10 [some (.ref x0), some (.int x1), some (.int x2), some (.int x3), some (.int x4)] [] σ) (h : f_X12_lateBy_39 k10 x0 x1 x2 x3 x4 σ = some z) : wg_G l E Sm "WornWigsModel" cX12_lateBy 5 (some .int) rm_X12_lateBy (some z.1) z.2 39 [some (.ref x0), some (.int x1), some (.int x2), some (.int x3), some (.int x4)] [] σ := by
  refine wr_iinc (c0 := (1 : Int32)) (wg_da dt_X12_lateBy 23 rfl) rfl (by decide) (by decide) h (fun v1 h => ?_)
  refine wr_goto 10 (wg_da dt_X12_lateBy 24 rfl) (by decide) ?_
  exact wr_wk [true, true, true, true, true] (hk10 x0 x1 x2 x3 v1 σ hx0 h)
set_option maxRecDepth 20000 in
theorem g_X12_lateBy_10 (l : Launch) (E : wg_E)  (z : Int32 × wg_M) : ∀ (n : Nat) (x0 : Nat) (x1 : Int32) (x2 : Int32) (x3 : Int32) (x4 : Int32) (σ : wg_M) (hx0 : wg_t Sm x0 = 14) (h : f_X12_lateBy_10  n x0 x1 x2 x3 x4 σ = some z), wg_G l E Sm "WornWigsModel" cX12_lateBy 5 (some .int) rm_X12_lateBy (some z.1) z.2 10 [some (.ref x0), some (.int x1), some (.int x2), some (.int x3), some (.int x4)] [] σ := by
  intro n
  induction n with
  | zero => intro x0 x1 x2 x3 x4 σ hx0 h; cases h
  | succ n ih =>
    intro x0 x1 x2 x3 x4 σ hx0 h
    refine wr_iload (wg_da dt_X12_lateBy 7 rfl) rfl ?_
    refine wr_aload_n (wg_da dt_X12_lateBy 8 rfl) rfl ?_
    refine wr_getI wf_X12_499 (wg_da dt_X12_lateBy 9 rfl) hx0 ?_
    refine wr_icmp_ge 45 (wg_da dt_X12_lateBy 10 rfl) (by decide) h (fun h => ?_) (fun h => ?_)
    · refine wr_aload_n (wg_da dt_X12_lateBy 25 rfl) rfl ?_
      refine wr_iload_n (wg_da dt_X12_lateBy 26 rfl) rfl ?_
      refine wr_aload_n (wg_da dt_X12_lateBy 27 rfl) rfl ?_
      refine wr_getR wf_X12_104 (wg_da dt_X12_lateBy 28 rfl) hx0 ?_
      refine wr_iload_n (wg_da dt_X12_lateBy 29 rfl) rfl ?_
      refine wr_iald (wg_da dt_X12_lateBy 30 rfl) (wg_ty Sm_ok 12 55 0 hx0 rfl (by decide)).2 h (fun v1 h => ?_)
      refine wr_isub (wg_da dt_X12_lateBy 31 rfl) ?_
      refine wr_aload_n (wg_da dt_X12_lateBy 32 rfl) rfl ?_
      refine wr_getR wf_X12_107 (wg_da dt_X12_lateBy 33 rfl) hx0 ?_
      refine wr_iload_n (wg_da dt_X12_lateBy 34 rfl) rfl ?_
      refine wr_iconst (1 : Int32) (wg_da dt_X12_lateBy 35 rfl) (by decide) ?_
      refine wr_iload_n (wg_da dt_X12_lateBy 36 rfl) rfl ?_
      refine wr_ishl (wg_da dt_X12_lateBy 37 rfl) ?_
      refine wr_ior (wg_da dt_X12_lateBy 38 rfl) ?_
      refine wr_iald (wg_da dt_X12_lateBy 39 rfl) (wg_ty Sm_ok 12 56 0 hx0 rfl (by decide)).2 h (fun v2 h => ?_)
      refine wr_callVi [.int (x3 - v1), .int v2] [] (wg_da dt_X12_lateBy 40 rfl) ⟨wq_8_162, wq_8_164, wq_p8_9⟩ hx0 ⟨rfl, by decide⟩ wy_X12_greater (fun q hq => m_X12_greater l E x0 (x3 - v1) v2 hx0 _ q hq) rfl rfl (Nat.le_of_ble_eq_true rfl) ⟨rfl, rfl, by decide, by decide⟩ h (fun v3 s4 h => ?_)
      exact wr_iret (wg_da dt_X12_lateBy 41 rfl) h
    · refine wr_aload_n (wg_da dt_X12_lateBy 11 rfl) rfl ?_
      refine wr_iload_n (wg_da dt_X12_lateBy 12 rfl) rfl ?_
      refine wr_iload (wg_da dt_X12_lateBy 13 rfl) rfl ?_
      refine wr_callVi [.int x1, .int x4] [] (wg_da dt_X12_lateBy 14 rfl) ⟨wq_9_21, wq_9_23, wq_p9_7⟩ hx0 ⟨rfl, by decide⟩ wy_X12_has (fun q hq => m_X12_has l E x0 x1 x4 hx0 _ q hq) rfl rfl (Nat.le_of_ble_eq_true rfl) ⟨rfl, rfl, by decide, by decide⟩ h (fun v5 s6 h => ?_)
      refine wr_if_eq 39 (wg_da dt_X12_lateBy 15 rfl) (by decide) h (fun h => ?_) (fun h => ?_)
      · exact wr_wk [true, true, true, true, true] (g_X12_lateBy_39 l E (f_X12_lateBy_10  n) x0 x1 x2 x3 x4 s6 _ hx0 (fun x0 x1 x2 x3 x4 σ hx0 h => ih x0 x1 x2 x3 x4 σ hx0 h) h)
      · refine wr_iload_n (wg_da dt_X12_lateBy 16 rfl) rfl ?_
        refine wr_aload_n (wg_da dt_X12_lateBy 17 rfl) rfl ?_
        refine wr_getR wf_X12_101 (wg_da dt_X12_lateBy 18 rfl) hx0 ?_
        refine wr_iload (wg_da dt_X12_lateBy 19 rfl) rfl ?_
        refine wr_iald (wg_da dt_X12_lateBy 20 rfl) (wg_ty Sm_ok 12 54 0 hx0 rfl (by decide)).2 h (fun v7 h => ?_)
        refine wr_iadd (wg_da dt_X12_lateBy 21 rfl) ?_
        refine wr_let h (fun v8 h => ?_)
        refine wr_istore_n (wg_da dt_X12_lateBy 22 rfl) (by decide) ?_
        exact wr_wk [true, true, true, true, true] (g_X12_lateBy_39 l E (f_X12_lateBy_10  n) x0 x1 x2 v8 x4 s6 _ hx0 (fun x0 x1 x2 x3 x4 σ hx0 h => ih x0 x1 x2 x3 x4 σ hx0 h) h)
set_option maxRecDepth 20000 in
theorem g_X12_lateBy_e (l : Launch) (E : wg_E)  (x0 : Nat) (x1 : Int32) (x2 : Int32) (σ : wg_M) (z : Int32 × wg_M) (hx0 : wg_t Sm x0 = 14) (h : f_X12_lateBy  x0 x1 x2 σ = some z) : wg_G l E Sm "WornWigsModel" cX12_lateBy 5 (some .int) rm_X12_lateBy (some z.1) z.2 0 [some (.ref x0), some (.int x1), some (.int x2), none, none] [] σ := by
  refine wr_aload_n (wg_da dt_X12_lateBy 0 rfl) rfl ?_
  refine wr_getR wf_X12_101 (wg_da dt_X12_lateBy 1 rfl) hx0 ?_
  refine wr_iload_n (wg_da dt_X12_lateBy 2 rfl) rfl ?_
  refine wr_iald (wg_da dt_X12_lateBy 3 rfl) (wg_ty Sm_ok 12 54 0 hx0 rfl (by decide)).2 h (fun v1 h => ?_)
  refine wr_istore_n (wg_da dt_X12_lateBy 4 rfl) (by decide) ?_
  refine wr_iconst (0 : Int32) (wg_da dt_X12_lateBy 5 rfl) (by decide) ?_
  refine wr_istore (wg_da dt_X12_lateBy 6 rfl) (by decide) ?_
  exact wr_wk [true, true, true, true, true] (g_X12_lateBy_10 l E  _  wg_N x0 x1 x2 v1 (0 : Int32) σ hx0 h)
theorem m_X12_lateBy (l : Launch) (E : wg_E) (x0 : Nat) (x1 : Int32) (x2 : Int32) (hx0 : wg_t Sm x0 = 14) (σ : wg_M) (q : Int32 × wg_M) (h : f_X12_lateBy x0 x1 x2 σ = some q) : wg_MG l E Sm yX12_lateBy cX12_lateBy 5 (some .int) rm_X12_lateBy [.ref x0, .int x1, .int x2] σ (some q.1) q.2 :=
  wg_met [.ref x0, .int x1, .int x2] (plainFor_of_name (by decide)) (Nat.le_of_ble_eq_true rfl) (g_X12_lateBy_e l E x0 x1 x2 σ q hx0 h)
abbrev rm_X12_findsLate : Room := { frames := 2, cells := 0, slots := 0, locals := 46 }
def tb_X12_findsLate : List (Nat × Instr × Nat) := [(0, .iconst 1, 1), (1, .aload_n 0, 1), (2, .getfield 499, 3), (5, .ishl, 1), (6, .iconst 1, 1), (7, .isub, 1), (8, .istore_n 1, 1), (9, .iload_n 1, 1), (10, .ifCond .lt 73, 3), (13, .iload_n 1, 1), (14, .iconst 1, 1), (15, .aload_n 0, 1), (16, .getfield 499, 3), (19, .ishl, 1), (20, .iconst 1, 1), (21, .isub, 1), (22, .if_icmp .ne 7, 3), (25, .iconst 0, 1), (26, .goto 6, 3), (29, .ldc_w 483, 3), (32, .istore_n 2, 1), (33, .iconst 0, 1), (34, .istore_n 3, 1), (35, .iload_n 3, 1), (36, .aload_n 0, 1), (37, .getfield 499, 3), (40, .if_icmp .ge 30, 3), (43, .aload_n 0, 1), (44, .iload_n 1, 1), (45, .iload_n 3, 1), (46, .invokevirtual 441, 3), (49, .ifCond .ne 15, 3), (52, .aload_n 0, 1), (53, .iload_n 2, 1), (54, .aload_n 0, 1), (55, .iload_n 1, 1), (56, .iload_n 3, 1), (57, .invokevirtual 502, 3), (60, .invokevirtual 146, 3), (63, .istore_n 2, 1), (64, .iinc 3 1, 3), (67, .goto (-32), 3), (70, .aload_n 0, 1), (71, .getfield 107, 3), (74, .iload_n 1, 1), (75, .iload_n 2, 1), (76, .iastore, 1), (77, .iinc 1 (-1), 3), (80, .goto (-71), 3), (83, .return_, 1)]
theorem dt_X12_findsLate : wg_dc cX12_findsLate tb_X12_findsLate := by unfold wg_dc; decide +kernel
def f_X12_findsLate_64 (k35 : Nat → Int32 → Int32 → Int32 → wg_M → Option (Int32 × wg_M)) (x0 : Nat) (x1 : Int32) (x2 : Int32) (x3 : Int32) (σ : wg_M) : Option (Int32 × wg_M) := wg_let (x3 + (1 : Int32)) (fun v1 => k35 x0 x1 x2 v1 σ)
def f_X12_findsLate_35 (k9 : Nat → Int32 → wg_M → Option (Int32 × wg_M)) : Nat → Nat → Int32 → Int32 → Int32 → wg_M → Option (Int32 × wg_M)
  | 0, _, _, _, _, _ => none
  | n + 1, x0, x1, x2, x3, σ => if (σ x0 53) ≤ x3 then (wg_sa (wg_n Sm (wg_r Sm x0 56)) σ (wg_r Sm x0 56) x1 x2 (fun s1 => wg_let (x1 + (-1 : Int32)) (fun v2 => k9 x0 v2 s1))) else (wg_bd (f_X12_has x0 x1 x3 σ) (fun v3 s4 => if v3 = 0 then (wg_bd (f_X12_lateBy x0 x1 x3 s4) (fun v5 s6 => wg_bd (f_X12_lesser x0 x2 v5 s6) (fun v7 s8 => f_X12_findsLate_64 (f_X12_findsLate_35 k9 n) x0 x1 v7 x3 s8))) else (f_X12_findsLate_64 (f_X12_findsLate_35 k9 n) x0 x1 x2 x3 s4)))
def f_X12_findsLate_32 (k9 : Nat → Int32 → wg_M → Option (Int32 × wg_M)) (x0 : Nat) (x1 : Int32) (t0 : Int32) (σ : wg_M) : Option (Int32 × wg_M) := f_X12_findsLate_35 k9 wg_N x0 x1 t0 (0 : Int32) σ
def f_X12_findsLate_9  : Nat → Nat → Int32 → wg_M → Option (Int32 × wg_M)
  | 0, _, _, _ => none
  | n + 1, x0, x1, σ => if x1 < 0 then (some (0, σ)) else (if x1 = (((1 : Int32) <<< ((σ x0 53) &&& 31)) - (1 : Int32)) then (f_X12_findsLate_32 (f_X12_findsLate_9  n) x0 x1 (0 : Int32) σ) else (f_X12_findsLate_32 (f_X12_findsLate_9  n) x0 x1 (100000000 : Int32) σ))
def f_X12_findsLate  (x0 : Nat) (σ : wg_M) : Option (Int32 × wg_M) := wg_let (((1 : Int32) <<< ((σ x0 53) &&& 31)) - (1 : Int32)) (fun v1 => f_X12_findsLate_9  wg_N x0 v1 σ)
set_option maxRecDepth 20000 in
theorem g_X12_findsLate_64 (l : Launch) (E : wg_E) (k35 : Nat → Int32 → Int32 → Int32 → wg_M → Option (Int32 × wg_M)) (x0 : Nat) (x1 : Int32) (x2 : Int32) (x3 : Int32) (σ : wg_M) (z : Int32 × wg_M) (hx0 : wg_t Sm x0 = 14) (hk35 : ∀ (x0 : Nat) (x1 : Int32) (x2 : Int32) (x3 : Int32) (σ : wg_M), wg_t Sm x0 = 14 → k35 x0 x1 x2 x3 σ = some z → wg_G l E Sm "WornWigsModel" cX12_findsLate 4 none rm_X12_findsLate none z.2 35 [some (.ref x0), some (.int x1), some (.int x2), some (.int x3)] [] σ) (h : f_X12_findsLate_64 k35 x0 x1 x2 x3 σ = some z) : wg_G l E Sm "WornWigsModel" cX12_findsLate 4 none rm_X12_findsLate none z.2 64 [some (.ref x0), some (.int x1), some (.int x2), some (.int x3)] [] σ := by
  refine wr_iinc (c0 := (1 : Int32)) (wg_da dt_X12_findsLate 40 rfl) rfl (by decide) (by decide) h (fun v1 h => ?_)
  refine wr_goto 35 (wg_da dt_X12_findsLate 41 rfl) (by decide) ?_
  exact wr_wk [true, true, true, true] (hk35 x0 x1 x2 v1 σ hx0 h)
set_option maxRecDepth 20000 in
theorem g_X12_findsLate_35 (l : Launch) (E : wg_E) (k9 : Nat → Int32 → wg_M → Option (Int32 × wg_M)) (z : Int32 × wg_M) (hk9 : ∀ (x0 : Nat) (x1 : Int32) (σ : wg_M), wg_t Sm x0 = 14 → k9 x0 x1 σ = some z → wg_G l E Sm "WornWigsModel" cX12_findsLate 4 none rm_X12_findsLate none z.2 9 [some (.ref x0), some (.int x1), none, none] [] σ) : ∀ (n : Nat) (x0 : Nat) (x1 : Int32) (x2 : Int32) (x3 : Int32) (σ : wg_M) (hx0 : wg_t Sm x0 = 14) (h : f_X12_findsLate_35 k9 n x0 x1 x2 x3 σ = some z), wg_G l E Sm "WornWigsModel" cX12_findsLate 4 none rm_X12_findsLate none z.2 35 [some (.ref x0), some (.int x1), some (.int x2), some (.int x3)] [] σ := by
  intro n
  induction n with
  | zero => intro x0 x1 x2 x3 σ hx0 h; cases h
  | succ n ih =>
    intro x0 x1 x2 x3 σ hx0 h
    refine wr_iload_n (wg_da dt_X12_findsLate 23 rfl) rfl ?_
    refine wr_aload_n (wg_da dt_X12_findsLate 24 rfl) rfl ?_
    refine wr_getI wf_X12_499 (wg_da dt_X12_findsLate 25 rfl) hx0 ?_
    refine wr_icmp_ge 70 (wg_da dt_X12_findsLate 26 rfl) (by decide) h (fun h => ?_) (fun h => ?_)
    · refine wr_aload_n (wg_da dt_X12_findsLate 42 rfl) rfl ?_
      refine wr_getR wf_X12_107 (wg_da dt_X12_findsLate 43 rfl) hx0 ?_
      refine wr_iload_n (wg_da dt_X12_findsLate 44 rfl) rfl ?_
      refine wr_iload_n (wg_da dt_X12_findsLate 45 rfl) rfl ?_
      refine wr_iast (wg_da dt_X12_findsLate 46 rfl) (wg_ty Sm_ok 12 56 0 hx0 rfl (by decide)).2 h (fun s1 h => ?_)
      refine wr_iinc (c0 := (-1 : Int32)) (wg_da dt_X12_findsLate 47 rfl) rfl (by decide) (by decide) h (fun v2 h => ?_)
      refine wr_goto 9 (wg_da dt_X12_findsLate 48 rfl) (by decide) ?_
      exact wr_wk [true, true, false, false] (hk9 x0 v2 s1 hx0 h)
    · refine wr_aload_n (wg_da dt_X12_findsLate 27 rfl) rfl ?_
      refine wr_iload_n (wg_da dt_X12_findsLate 28 rfl) rfl ?_
      refine wr_iload_n (wg_da dt_X12_findsLate 29 rfl) rfl ?_
      refine wr_callVi [.int x1, .int x3] [] (wg_da dt_X12_findsLate 30 rfl) ⟨wq_9_21, wq_9_23, wq_p9_7⟩ hx0 ⟨rfl, by decide⟩ wy_X12_has (fun q hq => m_X12_has l E x0 x1 x3 hx0 _ q hq) rfl rfl (Nat.le_of_ble_eq_true rfl) ⟨rfl, rfl, by decide, by decide⟩ h (fun v3 s4 h => ?_)
      refine wr_if_ne 64 (wg_da dt_X12_findsLate 31 rfl) (by decide) h (fun h => ?_) (fun h => ?_)
      · refine wr_aload_n (wg_da dt_X12_findsLate 32 rfl) rfl ?_
        refine wr_iload_n (wg_da dt_X12_findsLate 33 rfl) rfl ?_
        refine wr_aload_n (wg_da dt_X12_findsLate 34 rfl) rfl ?_
        refine wr_iload_n (wg_da dt_X12_findsLate 35 rfl) rfl ?_
        refine wr_iload_n (wg_da dt_X12_findsLate 36 rfl) rfl ?_
        refine wr_callVi [.int x1, .int x3] [.int x2, .ref x0] (wg_da dt_X12_findsLate 37 rfl) ⟨wq_9_142, wq_9_144, wq_p10_8⟩ hx0 ⟨rfl, by decide⟩ wy_X12_lateBy (fun q hq => m_X12_lateBy l E x0 x1 x3 hx0 _ q hq) rfl rfl (Nat.le_of_ble_eq_true rfl) ⟨rfl, rfl, by decide, by decide⟩ h (fun v5 s6 h => ?_)
        refine wr_callVi [.int x2, .int v5] [] (wg_da dt_X12_findsLate 38 rfl) ⟨wq_7_118, wq_7_120, wq_p4_9⟩ hx0 ⟨rfl, by decide⟩ wy_X12_lesser (fun q hq => m_X12_lesser l E x0 x2 v5 hx0 _ q hq) rfl rfl (Nat.le_of_ble_eq_true rfl) ⟨rfl, rfl, by decide, by decide⟩ h (fun v7 s8 h => ?_)
        refine wr_istore_n (wg_da dt_X12_findsLate 39 rfl) (by decide) ?_
        exact wr_wk [true, true, true, true] (g_X12_findsLate_64 l E (f_X12_findsLate_35 k9 n) x0 x1 v7 x3 s8 _ hx0 (fun x0 x1 x2 x3 σ hx0 h => ih x0 x1 x2 x3 σ hx0 h) h)
      · exact wr_wk [true, true, true, true] (g_X12_findsLate_64 l E (f_X12_findsLate_35 k9 n) x0 x1 x2 x3 s4 _ hx0 (fun x0 x1 x2 x3 σ hx0 h => ih x0 x1 x2 x3 σ hx0 h) h)
set_option maxRecDepth 20000 in
theorem g_X12_findsLate_32 (l : Launch) (E : wg_E) (k9 : Nat → Int32 → wg_M → Option (Int32 × wg_M)) (x0 : Nat) (x1 : Int32) (t0 : Int32) (σ : wg_M) (z : Int32 × wg_M) (hx0 : wg_t Sm x0 = 14) (hk9 : ∀ (x0 : Nat) (x1 : Int32) (σ : wg_M), wg_t Sm x0 = 14 → k9 x0 x1 σ = some z → wg_G l E Sm "WornWigsModel" cX12_findsLate 4 none rm_X12_findsLate none z.2 9 [some (.ref x0), some (.int x1), none, none] [] σ) (h : f_X12_findsLate_32 k9 x0 x1 t0 σ = some z) : wg_G l E Sm "WornWigsModel" cX12_findsLate 4 none rm_X12_findsLate none z.2 32 [some (.ref x0), some (.int x1), none, none] [.int t0] σ := by
  refine wr_istore_n (wg_da dt_X12_findsLate 20 rfl) (by decide) ?_
  refine wr_iconst (0 : Int32) (wg_da dt_X12_findsLate 21 rfl) (by decide) ?_
  refine wr_istore_n (wg_da dt_X12_findsLate 22 rfl) (by decide) ?_
  exact wr_wk [true, true, true, true] (g_X12_findsLate_35 l E k9 _ hk9 wg_N x0 x1 t0 (0 : Int32) σ hx0 h)
set_option maxRecDepth 20000 in
theorem g_X12_findsLate_9 (l : Launch) (E : wg_E)  (z : Int32 × wg_M) : ∀ (n : Nat) (x0 : Nat) (x1 : Int32) (σ : wg_M) (hx0 : wg_t Sm x0 = 14) (h : f_X12_findsLate_9  n x0 x1 σ = some z), wg_G l E Sm "WornWigsModel" cX12_findsLate 4 none rm_X12_findsLate none z.2 9 [some (.ref x0), some (.int x1), none, none] [] σ := by
  intro n
  induction n with
  | zero => intro x0 x1 σ hx0 h; cases h
  | succ n ih =>
    intro x0 x1 σ hx0 h
    refine wr_iload_n (wg_da dt_X12_findsLate 7 rfl) rfl ?_
    refine wr_if_lt 83 (wg_da dt_X12_findsLate 8 rfl) (by decide) h (fun h => ?_) (fun h => ?_)
    · exact wr_vret (wg_da dt_X12_findsLate 49 rfl) h
    · refine wr_iload_n (wg_da dt_X12_findsLate 9 rfl) rfl ?_
      refine wr_iconst (1 : Int32) (wg_da dt_X12_findsLate 10 rfl) (by decide) ?_
      refine wr_aload_n (wg_da dt_X12_findsLate 11 rfl) rfl ?_
      refine wr_getI wf_X12_499 (wg_da dt_X12_findsLate 12 rfl) hx0 ?_
      refine wr_ishl (wg_da dt_X12_findsLate 13 rfl) ?_
      refine wr_iconst (1 : Int32) (wg_da dt_X12_findsLate 14 rfl) (by decide) ?_
      refine wr_isub (wg_da dt_X12_findsLate 15 rfl) ?_
      refine wr_icmp_ne 29 (wg_da dt_X12_findsLate 16 rfl) (by decide) h (fun h => ?_) (fun h => ?_)
      · refine wr_iconst (0 : Int32) (wg_da dt_X12_findsLate 17 rfl) (by decide) ?_
        refine wr_goto 32 (wg_da dt_X12_findsLate 18 rfl) (by decide) ?_
        exact wr_wk [true, true, false, false] (g_X12_findsLate_32 l E (f_X12_findsLate_9  n) x0 x1 (0 : Int32) σ _ hx0 (fun x0 x1 σ hx0 h => ih x0 x1 σ hx0 h) h)
      · refine wr_ldcw (v := (100000000 : Int32)) (wg_da dt_X12_findsLate 19 rfl) wq_9_97 ?_
        exact wr_wk [true, true, false, false] (g_X12_findsLate_32 l E (f_X12_findsLate_9  n) x0 x1 (100000000 : Int32) σ _ hx0 (fun x0 x1 σ hx0 h => ih x0 x1 σ hx0 h) h)
set_option maxRecDepth 20000 in
theorem g_X12_findsLate_e (l : Launch) (E : wg_E)  (x0 : Nat) (σ : wg_M) (z : Int32 × wg_M) (hx0 : wg_t Sm x0 = 14) (h : f_X12_findsLate  x0 σ = some z) : wg_G l E Sm "WornWigsModel" cX12_findsLate 4 none rm_X12_findsLate none z.2 0 [some (.ref x0), none, none, none] [] σ := by
  refine wr_iconst (1 : Int32) (wg_da dt_X12_findsLate 0 rfl) (by decide) ?_
  refine wr_aload_n (wg_da dt_X12_findsLate 1 rfl) rfl ?_
  refine wr_getI wf_X12_499 (wg_da dt_X12_findsLate 2 rfl) hx0 ?_
  refine wr_ishl (wg_da dt_X12_findsLate 3 rfl) ?_
  refine wr_iconst (1 : Int32) (wg_da dt_X12_findsLate 4 rfl) (by decide) ?_
  refine wr_isub (wg_da dt_X12_findsLate 5 rfl) ?_
  refine wr_let h (fun v1 h => ?_)
  refine wr_istore_n (wg_da dt_X12_findsLate 6 rfl) (by decide) ?_
  exact wr_wk [true, true, false, false] (g_X12_findsLate_9 l E  _  wg_N x0 v1 σ hx0 h)
theorem m_X12_findsLate (l : Launch) (E : wg_E) (x0 : Nat) (hx0 : wg_t Sm x0 = 14) (σ : wg_M) (q : Int32 × wg_M) (h : f_X12_findsLate x0 σ = some q) : wg_MG l E Sm yX12_findsLate cX12_findsLate 4 none rm_X12_findsLate [.ref x0] σ none q.2 :=
  wg_met [.ref x0] (plainFor_of_name (by decide)) (Nat.le_of_ble_eq_true rfl) (g_X12_findsLate_e l E x0 σ q hx0 h)
abbrev rm_X12_hears : Room := { frames := 3, cells := 0, slots := 0, locals := 69 }
def tb_X12_hears : List (Nat × Instr × Nat) := [(0, .aload_n 0, 1), (1, .iconst 0, 1), (2, .putfield 113, 3), (5, .iload_n 1, 1), (6, .ifCond .eq 22, 3), (9, .aload_n 0, 1), (10, .iload_n 1, 1), (11, .bipush 10, 2), (13, .bipush 9, 2), (15, .aload_n 0, 1), (16, .getfield 499, 3), (19, .iadd, 1), (20, .invokevirtual 153, 3), (23, .ifCond .ne 5, 3), (26, .iconst (-1), 1), (27, .ireturn, 1), (28, .aload_n 0, 1), (29, .invokevirtual 505, 3), (32, .iload_n 1, 1), (33, .ifCond .ne 10, 3), (36, .aload_n 0, 1), (37, .getfield 107, 3), (40, .iconst 0, 1), (41, .iaload, 1), (42, .ireturn, 1), (43, .iconst 0, 1), (44, .istore_n 2, 1), (45, .iconst (-1), 1), (46, .istore_n 3, 1), (47, .iconst 0, 1), (48, .istore 4, 2), (50, .iload 4, 2), (52, .iload_n 1, 1), (53, .bipush 10, 2), (55, .isub, 1), (56, .if_icmp .gt 48, 3), (59, .iconst 0, 1), (60, .istore_n 3, 1), (61, .aload_n 0, 1), (62, .iload_n 2, 1), (63, .iload_n 3, 1), (64, .invokevirtual 441, 3), (67, .ifCond .ne 18, 3), (70, .aload_n 0, 1), (71, .iload_n 2, 1), (72, .iload_n 3, 1), (73, .invokevirtual 502, 3), (76, .aload_n 0, 1), (77, .getfield 107, 3), (80, .iconst 0, 1), (81, .iaload, 1), (82, .if_icmp .le 10, 3), (85, .iload_n 3, 1), (86, .iconst 1, 1), (87, .iadd, 1), (88, .istore_n 3, 1), (89, .goto (-28), 3), (92, .iload_n 2, 1), (93, .iconst 1, 1), (94, .iload_n 3, 1), (95, .ishl, 1), (96, .ior, 1), (97, .istore_n 2, 1), (98, .iinc 4 1, 3), (101, .goto (-51), 3), (104, .iload_n 3, 1), (105, .ireturn, 1)]
theorem dt_X12_hears : wg_dc cX12_hears tb_X12_hears := by unfold wg_dc; decide +kernel
def f_X12_hears_85 (k61 : Nat → Int32 → Int32 → Int32 → Int32 → wg_M → Option (Int32 × wg_M)) (x0 : Nat) (x1 : Int32) (x2 : Int32) (x3 : Int32) (x4 : Int32) (σ : wg_M) : Option (Int32 × wg_M) := wg_let (x3 + (1 : Int32)) (fun v1 => k61 x0 x1 x2 v1 x4 σ)
def f_X12_hears_61 (k50 : Nat → Int32 → Int32 → Int32 → Int32 → wg_M → Option (Int32 × wg_M)) : Nat → Nat → Int32 → Int32 → Int32 → Int32 → wg_M → Option (Int32 × wg_M)
  | 0, _, _, _, _, _, _ => none
  | n + 1, x0, x1, x2, x3, x4, σ => wg_bd (f_X12_has x0 x2 x3 σ) (fun v1 s2 => if v1 = 0 then (wg_bd (f_X12_lateBy x0 x2 x3 s2) (fun v3 s4 => wg_ga (wg_n Sm (wg_r Sm x0 56)) (s4 (wg_r Sm x0 56)) (0 : Int32) (fun v5 => if v3 ≤ v5 then (wg_let (x2 ||| ((1 : Int32) <<< (x3 &&& 31))) (fun v6 => wg_let (x4 + (1 : Int32)) (fun v7 => k50 x0 x1 v6 x3 v7 s4))) else (f_X12_hears_85 (f_X12_hears_61 k50 n) x0 x1 x2 x3 x4 s4)))) else (f_X12_hears_85 (f_X12_hears_61 k50 n) x0 x1 x2 x3 x4 s2))
def f_X12_hears_50  : Nat → Nat → Int32 → Int32 → Int32 → Int32 → wg_M → Option (Int32 × wg_M)
  | 0, _, _, _, _, _, _ => none
  | n + 1, x0, x1, x2, x3, x4, σ => if (x1 - (10 : Int32)) < x4 then (some (x3, σ)) else (f_X12_hears_61 (f_X12_hears_50  n) wg_N x0 x1 x2 (0 : Int32) x4 σ)
def f_X12_hears_28  (x0 : Nat) (x1 : Int32) (σ : wg_M) : Option (Int32 × wg_M) := wg_bd (f_X12_findsLate x0 σ) (fun _ s1 => if x1 = 0 then (wg_ga (wg_n Sm (wg_r Sm x0 56)) (s1 (wg_r Sm x0 56)) (0 : Int32) (fun v2 => some (v2, s1))) else (f_X12_hears_50  wg_N x0 x1 (0 : Int32) (-1 : Int32) (0 : Int32) s1))
def f_X12_hears  (x0 : Nat) (x1 : Int32) (σ : wg_M) : Option (Int32 × wg_M) := wg_st σ x0 0 (0 : Int32) (fun s1 => if x1 = 0 then (f_X12_hears_28  x0 x1 s1) else (wg_bd (f_X12_isIn x0 x1 (10 : Int32) ((9 : Int32) + (s1 x0 53)) s1) (fun v2 s3 => if v2 = 0 then (some ((-1 : Int32), s3)) else (f_X12_hears_28  x0 x1 s3))))
set_option maxRecDepth 20000 in
theorem g_X12_hears_85 (l : Launch) (E : wg_E) (k61 : Nat → Int32 → Int32 → Int32 → Int32 → wg_M → Option (Int32 × wg_M)) (x0 : Nat) (x1 : Int32) (x2 : Int32) (x3 : Int32) (x4 : Int32) (σ : wg_M) (z : Int32 × wg_M) (hx0 : wg_t Sm x0 = 14) (hk61 : ∀ (x0 : Nat) (x1 : Int32) (x2 : Int32) (x3 : Int32) (x4 : Int32) (σ : wg_M), wg_t Sm x0 = 14 → k61 x0 x1 x2 x3 x4 σ = some z → wg_G l E Sm "WornWigsModel" cX12_hears 5 (some .int) rm_X12_hears (some z.1) z.2 61 [some (.ref x0), some (.int x1), some (.int x2), some (.int x3), some (.int x4)] [] σ) (h : f_X12_hears_85 k61 x0 x1 x2 x3 x4 σ = some z) : wg_G l E Sm "WornWigsModel" cX12_hears 5 (some .int) rm_X12_hears (some z.1) z.2 85 [some (.ref x0), some (.int x1), some (.int x2), some (.int x3), some (.int x4)] [] σ := by
  refine wr_iload_n (wg_da dt_X12_hears 52 rfl) rfl ?_
  refine wr_iconst (1 : Int32) (wg_da dt_X12_hears 53 rfl) (by decide) ?_
  refine wr_iadd (wg_da dt_X12_hears 54 rfl) ?_
  refine wr_let h (fun v1 h => ?_)
  refine wr_istore_n (wg_da dt_X12_hears 55 rfl) (by decide) ?_
  refine wr_goto 61 (wg_da dt_X12_hears 56 rfl) (by decide) ?_
  exact wr_wk [true, true, true, true, true] (hk61 x0 x1 x2 v1 x4 σ hx0 h)
set_option maxRecDepth 20000 in
theorem g_X12_hears_61 (l : Launch) (E : wg_E) (k50 : Nat → Int32 → Int32 → Int32 → Int32 → wg_M → Option (Int32 × wg_M)) (z : Int32 × wg_M) (hk50 : ∀ (x0 : Nat) (x1 : Int32) (x2 : Int32) (x3 : Int32) (x4 : Int32) (σ : wg_M), wg_t Sm x0 = 14 → k50 x0 x1 x2 x3 x4 σ = some z → wg_G l E Sm "WornWigsModel" cX12_hears 5 (some .int) rm_X12_hears (some z.1) z.2 50 [some (.ref x0), some (.int x1), some (.int x2), some (.int x3), some (.int x4)] [] σ) : ∀ (n : Nat) (x0 : Nat) (x1 : Int32) (x2 : Int32) (x3 : Int32) (x4 : Int32) (σ : wg_M) (hx0 : wg_t Sm x0 = 14) (h : f_X12_hears_61 k50 n x0 x1 x2 x3 x4 σ = some z), wg_G l E Sm "WornWigsModel" cX12_hears 5 (some .int) rm_X12_hears (some z.1) z.2 61 [some (.ref x0), some (.int x1), some (.int x2), some (.int x3), some (.int x4)] [] σ := by
  intro n
  induction n with
  | zero => intro x0 x1 x2 x3 x4 σ hx0 h; cases h
  | succ n ih =>
    intro x0 x1 x2 x3 x4 σ hx0 h
    refine wr_aload_n (wg_da dt_X12_hears 38 rfl) rfl ?_
    refine wr_iload_n (wg_da dt_X12_hears 39 rfl) rfl ?_
    refine wr_iload_n (wg_da dt_X12_hears 40 rfl) rfl ?_
    refine wr_callVi [.int x2, .int x3] [] (wg_da dt_X12_hears 41 rfl) ⟨wq_9_21, wq_9_23, wq_p9_7⟩ hx0 ⟨rfl, by decide⟩ wy_X12_has (fun q hq => m_X12_has l E x0 x2 x3 hx0 _ q hq) rfl rfl (Nat.le_of_ble_eq_true rfl) ⟨rfl, rfl, by decide, by decide⟩ h (fun v1 s2 h => ?_)
    refine wr_if_ne 85 (wg_da dt_X12_hears 42 rfl) (by decide) h (fun h => ?_) (fun h => ?_)
    · refine wr_aload_n (wg_da dt_X12_hears 43 rfl) rfl ?_
      refine wr_iload_n (wg_da dt_X12_hears 44 rfl) rfl ?_
      refine wr_iload_n (wg_da dt_X12_hears 45 rfl) rfl ?_
      refine wr_callVi [.int x2, .int x3] [] (wg_da dt_X12_hears 46 rfl) ⟨wq_9_142, wq_9_144, wq_p10_8⟩ hx0 ⟨rfl, by decide⟩ wy_X12_lateBy (fun q hq => m_X12_lateBy l E x0 x2 x3 hx0 _ q hq) rfl rfl (Nat.le_of_ble_eq_true rfl) ⟨rfl, rfl, by decide, by decide⟩ h (fun v3 s4 h => ?_)
      refine wr_aload_n (wg_da dt_X12_hears 47 rfl) rfl ?_
      refine wr_getR wf_X12_107 (wg_da dt_X12_hears 48 rfl) hx0 ?_
      refine wr_iconst (0 : Int32) (wg_da dt_X12_hears 49 rfl) (by decide) ?_
      refine wr_iald (wg_da dt_X12_hears 50 rfl) (wg_ty Sm_ok 12 56 0 hx0 rfl (by decide)).2 h (fun v5 h => ?_)
      refine wr_icmp_le 92 (wg_da dt_X12_hears 51 rfl) (by decide) h (fun h => ?_) (fun h => ?_)
      · refine wr_iload_n (wg_da dt_X12_hears 57 rfl) rfl ?_
        refine wr_iconst (1 : Int32) (wg_da dt_X12_hears 58 rfl) (by decide) ?_
        refine wr_iload_n (wg_da dt_X12_hears 59 rfl) rfl ?_
        refine wr_ishl (wg_da dt_X12_hears 60 rfl) ?_
        refine wr_ior (wg_da dt_X12_hears 61 rfl) ?_
        refine wr_let h (fun v6 h => ?_)
        refine wr_istore_n (wg_da dt_X12_hears 62 rfl) (by decide) ?_
        refine wr_iinc (c0 := (1 : Int32)) (wg_da dt_X12_hears 63 rfl) rfl (by decide) (by decide) h (fun v7 h => ?_)
        refine wr_goto 50 (wg_da dt_X12_hears 64 rfl) (by decide) ?_
        exact wr_wk [true, true, true, true, true] (hk50 x0 x1 v6 x3 v7 s4 hx0 h)
      · exact wr_wk [true, true, true, true, true] (g_X12_hears_85 l E (f_X12_hears_61 k50 n) x0 x1 x2 x3 x4 s4 _ hx0 (fun x0 x1 x2 x3 x4 σ hx0 h => ih x0 x1 x2 x3 x4 σ hx0 h) h)
    · exact wr_wk [true, true, true, true, true] (g_X12_hears_85 l E (f_X12_hears_61 k50 n) x0 x1 x2 x3 x4 s2 _ hx0 (fun x0 x1 x2 x3 x4 σ hx0 h => ih x0 x1 x2 x3 x4 σ hx0 h) h)
set_option maxRecDepth 20000 in
theorem g_X12_hears_50 (l : Launch) (E : wg_E)  (z : Int32 × wg_M) : ∀ (n : Nat) (x0 : Nat) (x1 : Int32) (x2 : Int32) (x3 : Int32) (x4 : Int32) (σ : wg_M) (hx0 : wg_t Sm x0 = 14) (h : f_X12_hears_50  n x0 x1 x2 x3 x4 σ = some z), wg_G l E Sm "WornWigsModel" cX12_hears 5 (some .int) rm_X12_hears (some z.1) z.2 50 [some (.ref x0), some (.int x1), some (.int x2), some (.int x3), some (.int x4)] [] σ := by
  intro n
  induction n with
  | zero => intro x0 x1 x2 x3 x4 σ hx0 h; cases h
  | succ n ih =>
    intro x0 x1 x2 x3 x4 σ hx0 h
    refine wr_iload (wg_da dt_X12_hears 31 rfl) rfl ?_
    refine wr_iload_n (wg_da dt_X12_hears 32 rfl) rfl ?_
    refine wr_bipush (10 : Int32) (wg_da dt_X12_hears 33 rfl) (by decide) ?_
    refine wr_isub (wg_da dt_X12_hears 34 rfl) ?_
    refine wr_icmp_gt 104 (wg_da dt_X12_hears 35 rfl) (by decide) h (fun h => ?_) (fun h => ?_)
    · refine wr_iload_n (wg_da dt_X12_hears 65 rfl) rfl ?_
      exact wr_iret (wg_da dt_X12_hears 66 rfl) h
    · refine wr_iconst (0 : Int32) (wg_da dt_X12_hears 36 rfl) (by decide) ?_
      refine wr_istore_n (wg_da dt_X12_hears 37 rfl) (by decide) ?_
      exact wr_wk [true, true, true, true, true] (g_X12_hears_61 l E (f_X12_hears_50  n) _ (fun x0 x1 x2 x3 x4 σ hx0 h => ih x0 x1 x2 x3 x4 σ hx0 h) wg_N x0 x1 x2 (0 : Int32) x4 σ hx0 h)
set_option maxRecDepth 20000 in
theorem g_X12_hears_28 (l : Launch) (E : wg_E)  (x0 : Nat) (x1 : Int32) (σ : wg_M) (z : Int32 × wg_M) (hx0 : wg_t Sm x0 = 14) (h : f_X12_hears_28  x0 x1 σ = some z) : wg_G l E Sm "WornWigsModel" cX12_hears 5 (some .int) rm_X12_hears (some z.1) z.2 28 [some (.ref x0), some (.int x1), none, none, none] [] σ := by
  refine wr_aload_n (wg_da dt_X12_hears 16 rfl) rfl ?_
  refine wr_callVv [] [] (wg_da dt_X12_hears 17 rfl) ⟨wq_9_138, wq_9_140, wq_p10_7⟩ hx0 ⟨rfl, by decide⟩ wy_X12_findsLate (fun q hq => m_X12_findsLate l E x0 hx0 _ q hq) rfl rfl (Nat.le_of_ble_eq_true rfl) ⟨rfl, rfl, by decide, by decide⟩ h (fun _ s1 h => ?_)
  refine wr_iload_n (wg_da dt_X12_hears 18 rfl) rfl ?_
  refine wr_if_ne 43 (wg_da dt_X12_hears 19 rfl) (by decide) h (fun h => ?_) (fun h => ?_)
  · refine wr_aload_n (wg_da dt_X12_hears 20 rfl) rfl ?_
    refine wr_getR wf_X12_107 (wg_da dt_X12_hears 21 rfl) hx0 ?_
    refine wr_iconst (0 : Int32) (wg_da dt_X12_hears 22 rfl) (by decide) ?_
    refine wr_iald (wg_da dt_X12_hears 23 rfl) (wg_ty Sm_ok 12 56 0 hx0 rfl (by decide)).2 h (fun v2 h => ?_)
    exact wr_iret (wg_da dt_X12_hears 24 rfl) h
  · refine wr_iconst (0 : Int32) (wg_da dt_X12_hears 25 rfl) (by decide) ?_
    refine wr_istore_n (wg_da dt_X12_hears 26 rfl) (by decide) ?_
    refine wr_iconst (-1 : Int32) (wg_da dt_X12_hears 27 rfl) (by decide) ?_
    refine wr_istore_n (wg_da dt_X12_hears 28 rfl) (by decide) ?_
    refine wr_iconst (0 : Int32) (wg_da dt_X12_hears 29 rfl) (by decide) ?_
    refine wr_istore (wg_da dt_X12_hears 30 rfl) (by decide) ?_
    exact wr_wk [true, true, true, true, true] (g_X12_hears_50 l E  _  wg_N x0 x1 (0 : Int32) (-1 : Int32) (0 : Int32) s1 hx0 h)
set_option maxRecDepth 20000 in
theorem g_X12_hears_e (l : Launch) (E : wg_E)  (x0 : Nat) (x1 : Int32) (σ : wg_M) (z : Int32 × wg_M) (hx0 : wg_t Sm x0 = 14) (h : f_X12_hears  x0 x1 σ = some z) : wg_G l E Sm "WornWigsModel" cX12_hears 5 (some .int) rm_X12_hears (some z.1) z.2 0 [some (.ref x0), some (.int x1), none, none, none] [] σ := by
  refine wr_aload_n (wg_da dt_X12_hears 0 rfl) rfl ?_
  refine wr_iconst (0 : Int32) (wg_da dt_X12_hears 1 rfl) (by decide) ?_
  refine wr_putI wfp_X12_113 (wg_da dt_X12_hears 2 rfl) hx0 h (fun s1 h => ?_)
  refine wr_iload_n (wg_da dt_X12_hears 3 rfl) rfl ?_
  refine wr_if_eq 28 (wg_da dt_X12_hears 4 rfl) (by decide) h (fun h => ?_) (fun h => ?_)
  · exact wr_wk [true, true, false, false, false] (g_X12_hears_28 l E  x0 x1 s1 _ hx0  h)
  · refine wr_aload_n (wg_da dt_X12_hears 5 rfl) rfl ?_
    refine wr_iload_n (wg_da dt_X12_hears 6 rfl) rfl ?_
    refine wr_bipush (10 : Int32) (wg_da dt_X12_hears 7 rfl) (by decide) ?_
    refine wr_bipush (9 : Int32) (wg_da dt_X12_hears 8 rfl) (by decide) ?_
    refine wr_aload_n (wg_da dt_X12_hears 9 rfl) rfl ?_
    refine wr_getI wf_X12_499 (wg_da dt_X12_hears 10 rfl) hx0 ?_
    refine wr_iadd (wg_da dt_X12_hears 11 rfl) ?_
    refine wr_callVi [.int x1, .int (10 : Int32), .int ((9 : Int32) + (s1 x0 53))] [] (wg_da dt_X12_hears 12 rfl) ⟨wq_7_82, wq_7_84, wq_p4_3⟩ hx0 ⟨rfl, by decide⟩ wy_X12_isIn (fun q hq => m_X12_isIn l E x0 x1 (10 : Int32) ((9 : Int32) + (s1 x0 53)) hx0 _ q hq) rfl rfl (Nat.le_of_ble_eq_true rfl) ⟨rfl, rfl, by decide, by decide⟩ h (fun v2 s3 h => ?_)
    refine wr_if_ne 28 (wg_da dt_X12_hears 13 rfl) (by decide) h (fun h => ?_) (fun h => ?_)
    · refine wr_iconst (-1 : Int32) (wg_da dt_X12_hears 14 rfl) (by decide) ?_
      exact wr_iret (wg_da dt_X12_hears 15 rfl) h
    · exact wr_wk [true, true, false, false, false] (g_X12_hears_28 l E  x0 x1 s3 _ hx0  h)
theorem m_X12_hears (l : Launch) (E : wg_E) (x0 : Nat) (x1 : Int32) (hx0 : wg_t Sm x0 = 14) (σ : wg_M) (q : Int32 × wg_M) (h : f_X12_hears x0 x1 σ = some q) : wg_MG l E Sm yX12_hears cX12_hears 5 (some .int) rm_X12_hears [.ref x0, .int x1] σ (some q.1) q.2 :=
  wg_met [.ref x0, .int x1] (plainFor_of_name (by decide)) (Nat.le_of_ble_eq_true rfl) (g_X12_hears_e l E x0 x1 σ q hx0 h)

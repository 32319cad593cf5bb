abbrev rm_X11_combs : Room := { frames := 2, cells := 0, slots := 0, locals := 53 }
def tb_X11_combs : List (Nat × Instr × Nat) := [(0, .aload_n 0, 1), (1, .getfield 12, 3), (4, .getfield 51, 3), (7, .getfield 64, 3), (10, .iload_n 1, 1), (11, .invokevirtual 95, 3), (14, .ifCond .eq 12, 3), (17, .iload_n 2, 1), (18, .iconst 0, 1), (19, .iconst 1, 1), (20, .invokestatic 73, 3), (23, .ifCond .ne 5, 3), (26, .iconst (-1), 1), (27, .ireturn, 1), (28, .aload_n 0, 1), (29, .getfield 12, 3), (32, .getfield 51, 3), (35, .getfield 64, 3), (38, .iload_n 1, 1), (39, .invokevirtual 282, 3), (42, .istore_n 3, 1), (43, .iload_n 2, 1), (44, .ifCond .ne 10, 3), (47, .iload_n 3, 1), (48, .invokestatic 285, 3), (51, .goto 4, 3), (54, .iload_n 3, 1), (55, .ireturn, 1)]
theorem dt_X11_combs : wg_dc cX11_combs tb_X11_combs := by unfold wg_dc; decide +kernel
def f_X11_combs  (x0 : Nat) (x1 : Int32) (x2 : Int32) (σ : wg_M) : Option (Int32 × wg_M) := wg_bd (f_X9_has (wg_r Sc (wg_r Sc (wg_r Sc x0 0) 0) 0) x1 σ) (fun v1 s2 => if v1 = 0 then (some ((-1 : Int32), s2)) else (wg_bd (f_X11_within x2 (0 : Int32) (1 : Int32) s2) (fun v3 s4 => if v3 = 0 then (some ((-1 : Int32), s4)) else (wg_bd (f_X9_toComb (wg_r Sc (wg_r Sc (wg_r Sc x0 0) 0) 0) x1 s4) (fun v5 s6 => if x2 = 0 then (wg_bd (f_J6_bitCount_0f7a4 v5 s6) (fun v7 s8 => some (v7, s8))) else (some (v5, s6)))))))
set_option maxRecDepth 20000 in
theorem g_X11_combs_e (l : Launch) (E : wg_E)  (x0 : Nat) (x1 : Int32) (x2 : Int32) (σ : wg_M) (z : Int32 × wg_M) (hx0 : wg_t Sc x0 = 13) (h : f_X11_combs  x0 x1 x2 σ = some z) : wg_G l E Sc "WornWigs" cX11_combs 4 (some .int) rm_X11_combs (some z.1) z.2 0 [some (.ref x0), some (.int x1), some (.int x2), none] [] σ := by
  refine wr_aload_n (wg_da dt_X11_combs 0 rfl) rfl ?_
  refine wr_getR wf_X11_12 (wg_da dt_X11_combs 1 rfl) hx0 ?_
  refine wr_getR wf_X11_51 (wg_da dt_X11_combs 2 rfl) (wg_ty Sc_ok 11 0 12 hx0 rfl (by decide)).2 ?_
  refine wr_getR wf_X11_64 (wg_da dt_X11_combs 3 rfl) (wg_ty Sc_ok 10 0 2 (wg_ty Sc_ok 11 0 12 hx0 rfl (by decide)).2 rfl (by decide)).2 ?_
  refine wr_iload_n (wg_da dt_X11_combs 4 rfl) rfl ?_
  refine wr_callVi [.int x1] [] (wg_da dt_X11_combs 5 rfl) ⟨wq_3_75, wq_3_76, wq_3_77⟩ (wg_ty Sc_ok 0 0 11 (wg_ty Sc_ok 10 0 2 (wg_ty Sc_ok 11 0 12 hx0 rfl (by decide)).2 rfl (by decide)).2 rfl (by decide)).2 ⟨rfl, by decide⟩ wy_X9_has (fun q hq => m_X9_has l E (wg_r Sc (wg_r Sc (wg_r Sc x0 0) 0) 0) x1 (wg_ty Sc_ok 0 0 11 (wg_ty Sc_ok 10 0 2 (wg_ty Sc_ok 11 0 12 hx0 rfl (by decide)).2 rfl (by decide)).2 rfl (by decide)).2 _ q hq) rfl rfl (Nat.le_of_ble_eq_true rfl) ⟨rfl, rfl, by decide, by decide⟩ h (fun v1 s2 h => ?_)
  refine wr_if_eq 26 (wg_da dt_X11_combs 6 rfl) (by decide) h (fun h => ?_) (fun h => ?_)
  · refine wr_iconst (-1 : Int32) (wg_da dt_X11_combs 12 rfl) (by decide) ?_
    exact wr_iret (wg_da dt_X11_combs 13 rfl) h
  · refine wr_iload_n (wg_da dt_X11_combs 7 rfl) rfl ?_
    refine wr_iconst (0 : Int32) (wg_da dt_X11_combs 8 rfl) (by decide) ?_
    refine wr_iconst (1 : Int32) (wg_da dt_X11_combs 9 rfl) (by decide) ?_
    refine wr_callSi [.int x2, .int (0 : Int32), .int (1 : Int32)] [] (wg_da dt_X11_combs 10 rfl) ⟨wq_3_48, wq_3_49⟩ wy_X11_within (fun q hq => m_X11_within l E x2 (0 : Int32) (1 : Int32)  _ q hq) rfl rfl (Nat.le_of_ble_eq_true rfl) ⟨rfl, rfl, by decide, by decide⟩ h (fun v3 s4 h => ?_)
    refine wr_if_ne 28 (wg_da dt_X11_combs 11 rfl) (by decide) h (fun h => ?_) (fun h => ?_)
    · refine wr_iconst (-1 : Int32) (wg_da dt_X11_combs 12 rfl) (by decide) ?_
      exact wr_iret (wg_da dt_X11_combs 13 rfl) h
    · refine wr_aload_n (wg_da dt_X11_combs 14 rfl) rfl ?_
      refine wr_getR wf_X11_12 (wg_da dt_X11_combs 15 rfl) hx0 ?_
      refine wr_getR wf_X11_51 (wg_da dt_X11_combs 16 rfl) (wg_ty Sc_ok 11 0 12 hx0 rfl (by decide)).2 ?_
      refine wr_getR wf_X11_64 (wg_da dt_X11_combs 17 rfl) (wg_ty Sc_ok 10 0 2 (wg_ty Sc_ok 11 0 12 hx0 rfl (by decide)).2 rfl (by decide)).2 ?_
      refine wr_iload_n (wg_da dt_X11_combs 18 rfl) rfl ?_
      refine wr_callVi [.int x1] [] (wg_da dt_X11_combs 19 rfl) ⟨wq_5_120, wq_5_121, wq_5_122⟩ (wg_ty Sc_ok 0 0 11 (wg_ty Sc_ok 10 0 2 (wg_ty Sc_ok 11 0 12 hx0 rfl (by decide)).2 rfl (by decide)).2 rfl (by decide)).2 ⟨rfl, by decide⟩ wy_X9_toComb (fun q hq => m_X9_toComb l E (wg_r Sc (wg_r Sc (wg_r Sc x0 0) 0) 0) x1 (wg_ty Sc_ok 0 0 11 (wg_ty Sc_ok 10 0 2 (wg_ty Sc_ok 11 0 12 hx0 rfl (by decide)).2 rfl (by decide)).2 rfl (by decide)).2 _ q hq) rfl rfl (Nat.le_of_ble_eq_true rfl) ⟨rfl, rfl, by decide, by decide⟩ h (fun v5 s6 h => ?_)
      refine wr_istore_n (wg_da dt_X11_combs 20 rfl) (by decide) ?_
      refine wr_iload_n (wg_da dt_X11_combs 21 rfl) rfl ?_
      refine wr_if_ne 54 (wg_da dt_X11_combs 22 rfl) (by decide) h (fun h => ?_) (fun h => ?_)
      · refine wr_iload_n (wg_da dt_X11_combs 23 rfl) rfl ?_
        refine wr_callSi [.int v5] [] (wg_da dt_X11_combs 24 rfl) ⟨wq_5_124, wq_3_92⟩ wy_J6_bitCount_0f7a4 (fun q hq => m_J6_bitCount_0f7a4 l E v5  _ q hq) rfl rfl (Nat.le_of_ble_eq_true rfl) ⟨rfl, rfl, by decide, by decide⟩ h (fun v7 s8 h => ?_)
        refine wr_goto 55 (wg_da dt_X11_combs 25 rfl) (by decide) ?_
        exact wr_iret (wg_da dt_X11_combs 27 rfl) h
      · refine wr_iload_n (wg_da dt_X11_combs 26 rfl) rfl ?_
        exact wr_iret (wg_da dt_X11_combs 27 rfl) h
theorem m_X11_combs (l : Launch) (E : wg_E) (x0 : Nat) (x1 : Int32) (x2 : Int32) (hx0 : wg_t Sc x0 = 13) (σ : wg_M) (q : Int32 × wg_M) (h : f_X11_combs x0 x1 x2 σ = some q) : wg_MG l E Sc yX11_combs cX11_combs 4 (some .int) rm_X11_combs [.ref x0, .int x1, .int x2] σ (some q.1) q.2 :=
  wg_met [.ref x0, .int x1, .int x2] (plainFor_of_name (by decide)) (Nat.le_of_ble_eq_true rfl) (g_X11_combs_e l E x0 x1 x2 σ q hx0 h)
abbrev rm_X11_alike : Room := { frames := 3, cells := 0, slots := 0, locals := 73 }
def tb_X11_alike : List (Nat × Instr × Nat) := [(0, .aload_n 0, 1), (1, .getfield 12, 3), (4, .getfield 51, 3), (7, .getfield 64, 3), (10, .astore_n 3, 1), (11, .aload_n 3, 1), (12, .iload_n 1, 1), (13, .invokevirtual 95, 3), (16, .ifCond .ne 5, 3), (19, .iconst (-1), 1), (20, .ireturn, 1), (21, .iload_n 2, 1), (22, .iconst (-1), 1), (23, .if_icmp .ne 9, 3), (26, .aload_n 3, 1), (27, .iload_n 1, 1), (28, .invokevirtual 290, 3), (31, .ireturn, 1), (32, .aload_n 3, 1), (33, .iload_n 2, 1), (34, .invokevirtual 95, 3), (37, .ifCond .eq 12, 3), (40, .aload_n 3, 1), (41, .iload_n 1, 1), (42, .iload_n 2, 1), (43, .invokevirtual 293, 3), (46, .goto 4, 3), (49, .iconst (-1), 1), (50, .ireturn, 1)]
theorem dt_X11_alike : wg_dc cX11_alike tb_X11_alike := by unfold wg_dc; decide +kernel
def f_X11_alike  (x0 : Nat) (x1 : Int32) (x2 : Int32) (σ : wg_M) : Option (Int32 × wg_M) := wg_bd (f_X9_has (wg_r Sc (wg_r Sc (wg_r Sc x0 0) 0) 0) x1 σ) (fun v1 s2 => if v1 = 0 then (some ((-1 : Int32), s2)) else (if x2 = (-1 : Int32) then (wg_bd (f_X9_nearest (wg_r Sc (wg_r Sc (wg_r Sc x0 0) 0) 0) x1 s2) (fun v7 s8 => some (v7, s8))) else (wg_bd (f_X9_has (wg_r Sc (wg_r Sc (wg_r Sc x0 0) 0) 0) x2 s2) (fun v3 s4 => if v3 = 0 then (some ((-1 : Int32), s4)) else (wg_bd (f_X9_apart (wg_r Sc (wg_r Sc (wg_r Sc x0 0) 0) 0) x1 x2 s4) (fun v5 s6 => some (v5, s6)))))))
set_option maxRecDepth 20000 in
theorem g_X11_alike_e (l : Launch) (E : wg_E)  (x0 : Nat) (x1 : Int32) (x2 : Int32) (σ : wg_M) (z : Int32 × wg_M) (hx0 : wg_t Sc x0 = 13) (h : f_X11_alike  x0 x1 x2 σ = some z) : wg_G l E Sc "WornWigs" cX11_alike 4 (some .int) rm_X11_alike (some z.1) z.2 0 [some (.ref x0), some (.int x1), some (.int x2), none] [] σ := by
  refine wr_aload_n (wg_da dt_X11_alike 0 rfl) rfl ?_
  refine wr_getR wf_X11_12 (wg_da dt_X11_alike 1 rfl) hx0 ?_
  refine wr_getR wf_X11_51 (wg_da dt_X11_alike 2 rfl) (wg_ty Sc_ok 11 0 12 hx0 rfl (by decide)).2 ?_
  refine wr_getR wf_X11_64 (wg_da dt_X11_alike 3 rfl) (wg_ty Sc_ok 10 0 2 (wg_ty Sc_ok 11 0 12 hx0 rfl (by decide)).2 rfl (by decide)).2 ?_
  refine wr_astore_n (wg_da dt_X11_alike 4 rfl) (by decide) ?_
  refine wr_aload_n (wg_da dt_X11_alike 5 rfl) rfl ?_
  refine wr_iload_n (wg_da dt_X11_alike 6 rfl) rfl ?_
  refine wr_callVi [.int x1] [] (wg_da dt_X11_alike 7 rfl) ⟨wq_3_75, wq_3_76, wq_3_77⟩ (wg_ty Sc_ok 0 0 11 (wg_ty Sc_ok 10 0 2 (wg_ty Sc_ok 11 0 12 hx0 rfl (by decide)).2 rfl (by decide)).2 rfl (by decide)).2 ⟨rfl, by decide⟩ wy_X9_has (fun q hq => m_X9_has l E (wg_r Sc (wg_r Sc (wg_r Sc x0 0) 0) 0) x1 (wg_ty Sc_ok 0 0 11 (wg_ty Sc_ok 10 0 2 (wg_ty Sc_ok 11 0 12 hx0 rfl (by decide)).2 rfl (by decide)).2 rfl (by decide)).2 _ q hq) rfl rfl (Nat.le_of_ble_eq_true rfl) ⟨rfl, rfl, by decide, by decide⟩ h (fun v1 s2 h => ?_)
  refine wr_if_ne 21 (wg_da dt_X11_alike 8 rfl) (by decide) h (fun h => ?_) (fun h => ?_)
  · refine wr_iconst (-1 : Int32) (wg_da dt_X11_alike 9 rfl) (by decide) ?_
    exact wr_iret (wg_da dt_X11_alike 10 rfl) h
  · refine wr_iload_n (wg_da dt_X11_alike 11 rfl) rfl ?_
    refine wr_iconst (-1 : Int32) (wg_da dt_X11_alike 12 rfl) (by decide) ?_
    refine wr_icmp_ne 32 (wg_da dt_X11_alike 13 rfl) (by decide) h (fun h => ?_) (fun h => ?_)
    · refine wr_aload_n (wg_da dt_X11_alike 14 rfl) rfl ?_
      refine wr_iload_n (wg_da dt_X11_alike 15 rfl) rfl ?_
      refine wr_callVi [.int x1] [] (wg_da dt_X11_alike 16 rfl) ⟨wq_5_129, wq_5_130, wq_5_131⟩ (wg_ty Sc_ok 0 0 11 (wg_ty Sc_ok 10 0 2 (wg_ty Sc_ok 11 0 12 hx0 rfl (by decide)).2 rfl (by decide)).2 rfl (by decide)).2 ⟨rfl, by decide⟩ wy_X9_nearest (fun q hq => m_X9_nearest l E (wg_r Sc (wg_r Sc (wg_r Sc x0 0) 0) 0) x1 (wg_ty Sc_ok 0 0 11 (wg_ty Sc_ok 10 0 2 (wg_ty Sc_ok 11 0 12 hx0 rfl (by decide)).2 rfl (by decide)).2 rfl (by decide)).2 _ q hq) rfl rfl (Nat.le_of_ble_eq_true rfl) ⟨rfl, rfl, by decide, by decide⟩ h (fun v7 s8 h => ?_)
      exact wr_iret (wg_da dt_X11_alike 17 rfl) h
    · refine wr_aload_n (wg_da dt_X11_alike 18 rfl) rfl ?_
      refine wr_iload_n (wg_da dt_X11_alike 19 rfl) rfl ?_
      refine wr_callVi [.int x2] [] (wg_da dt_X11_alike 20 rfl) ⟨wq_3_75, wq_3_76, wq_3_77⟩ (wg_ty Sc_ok 0 0 11 (wg_ty Sc_ok 10 0 2 (wg_ty Sc_ok 11 0 12 hx0 rfl (by decide)).2 rfl (by decide)).2 rfl (by decide)).2 ⟨rfl, by decide⟩ wy_X9_has (fun q hq => m_X9_has l E (wg_r Sc (wg_r Sc (wg_r Sc x0 0) 0) 0) x2 (wg_ty Sc_ok 0 0 11 (wg_ty Sc_ok 10 0 2 (wg_ty Sc_ok 11 0 12 hx0 rfl (by decide)).2 rfl (by decide)).2 rfl (by decide)).2 _ q hq) rfl rfl (Nat.le_of_ble_eq_true rfl) ⟨rfl, rfl, by decide, by decide⟩ h (fun v3 s4 h => ?_)
      refine wr_if_eq 49 (wg_da dt_X11_alike 21 rfl) (by decide) h (fun h => ?_) (fun h => ?_)
      · refine wr_iconst (-1 : Int32) (wg_da dt_X11_alike 27 rfl) (by decide) ?_
        exact wr_iret (wg_da dt_X11_alike 28 rfl) h
      · refine wr_aload_n (wg_da dt_X11_alike 22 rfl) rfl ?_
        refine wr_iload_n (wg_da dt_X11_alike 23 rfl) rfl ?_
        refine wr_iload_n (wg_da dt_X11_alike 24 rfl) rfl ?_
        refine wr_callVi [.int x1, .int x2] [] (wg_da dt_X11_alike 25 rfl) ⟨wq_5_144, wq_5_134, wq_5_135⟩ (wg_ty Sc_ok 0 0 11 (wg_ty Sc_ok 10 0 2 (wg_ty Sc_ok 11 0 12 hx0 rfl (by decide)).2 rfl (by decide)).2 rfl (by decide)).2 ⟨rfl, by decide⟩ wy_X9_apart (fun q hq => m_X9_apart l E (wg_r Sc (wg_r Sc (wg_r Sc x0 0) 0) 0) x1 x2 (wg_ty Sc_ok 0 0 11 (wg_ty Sc_ok 10 0 2 (wg_ty Sc_ok 11 0 12 hx0 rfl (by decide)).2 rfl (by decide)).2 rfl (by decide)).2 _ q hq) rfl rfl (Nat.le_of_ble_eq_true rfl) ⟨rfl, rfl, by decide, by decide⟩ h (fun v5 s6 h => ?_)
        refine wr_goto 50 (wg_da dt_X11_alike 26 rfl) (by decide) ?_
        exact wr_iret (wg_da dt_X11_alike 28 rfl) h
theorem m_X11_alike (l : Launch) (E : wg_E) (x0 : Nat) (x1 : Int32) (x2 : Int32) (hx0 : wg_t Sc x0 = 13) (σ : wg_M) (q : Int32 × wg_M) (h : f_X11_alike x0 x1 x2 σ = some q) : wg_MG l E Sc yX11_alike cX11_alike 4 (some .int) rm_X11_alike [.ref x0, .int x1, .int x2] σ (some q.1) q.2 :=
  wg_met [.ref x0, .int x1, .int x2] (plainFor_of_name (by decide)) (Nat.le_of_ble_eq_true rfl) (g_X11_alike_e l E x0 x1 x2 σ q hx0 h)
abbrev rm_X11_heir : Room := { frames := 2, cells := 0, slots := 0, locals := 50 }
def tb_X11_heir : List (Nat × Instr × Nat) := [(0, .aload_n 0, 1), (1, .getfield 12, 3), (4, .getfield 51, 3), (7, .getfield 64, 3), (10, .iload_n 1, 1), (11, .invokevirtual 95, 3), (14, .ifCond .eq 13, 3), (17, .iload_n 2, 1), (18, .iconst 1, 1), (19, .bipush 9, 2), (21, .invokestatic 73, 3), (24, .ifCond .ne 5, 3), (27, .iconst (-1), 1), (28, .ireturn, 1), (29, .aload_n 0, 1), (30, .getfield 47, 3), (33, .iload_n 1, 1), (34, .iload_n 2, 1), (35, .invokevirtual 296, 3), (38, .ireturn, 1)]
theorem dt_X11_heir : wg_dc cX11_heir tb_X11_heir := by unfold wg_dc; decide +kernel
def f_X11_heir  (x0 : Nat) (x1 : Int32) (x2 : Int32) (σ : wg_M) : Option (Int32 × wg_M) := wg_bd (f_X9_has (wg_r Sc (wg_r Sc (wg_r Sc x0 0) 0) 0) x1 σ) (fun v1 s2 => if v1 = 0 then (some ((-1 : Int32), s2)) else (wg_bd (f_X11_within x2 (1 : Int32) (9 : Int32) s2) (fun v3 s4 => if v3 = 0 then (some ((-1 : Int32), s4)) else (wg_bd (f_X7_heirOf (wg_r Sc x0 5) x1 x2 s4) (fun v5 s6 => some (v5, s6))))))
set_option maxRecDepth 20000 in
theorem g_X11_heir_e (l : Launch) (E : wg_E)  (x0 : Nat) (x1 : Int32) (x2 : Int32) (σ : wg_M) (z : Int32 × wg_M) (hx0 : wg_t Sc x0 = 13) (h : f_X11_heir  x0 x1 x2 σ = some z) : wg_G l E Sc "WornWigs" cX11_heir 3 (some .int) rm_X11_heir (some z.1) z.2 0 [some (.ref x0), some (.int x1), some (.int x2)] [] σ := by
  refine wr_aload_n (wg_da dt_X11_heir 0 rfl) rfl ?_
  refine wr_getR wf_X11_12 (wg_da dt_X11_heir 1 rfl) hx0 ?_
  refine wr_getR wf_X11_51 (wg_da dt_X11_heir 2 rfl) (wg_ty Sc_ok 11 0 12 hx0 rfl (by decide)).2 ?_
  refine wr_getR wf_X11_64 (wg_da dt_X11_heir 3 rfl) (wg_ty Sc_ok 10 0 2 (wg_ty Sc_ok 11 0 12 hx0 rfl (by decide)).2 rfl (by decide)).2 ?_
  refine wr_iload_n (wg_da dt_X11_heir 4 rfl) rfl ?_
  refine wr_callVi [.int x1] [] (wg_da dt_X11_heir 5 rfl) ⟨wq_3_75, wq_3_76, wq_3_77⟩ (wg_ty Sc_ok 0 0 11 (wg_ty Sc_ok 10 0 2 (wg_ty Sc_ok 11 0 12 hx0 rfl (by decide)).2 rfl (by decide)).2 rfl (by decide)).2 ⟨rfl, by decide⟩ wy_X9_has (fun q hq => m_X9_has l E (wg_r Sc (wg_r Sc (wg_r Sc x0 0) 0) 0) x1 (wg_ty Sc_ok 0 0 11 (wg_ty Sc_ok 10 0 2 (wg_ty Sc_ok 11 0 12 hx0 rfl (by decide)).2 rfl (by decide)).2 rfl (by decide)).2 _ q hq) rfl rfl (Nat.le_of_ble_eq_true rfl) ⟨rfl, rfl, by decide, by decide⟩ h (fun v1 s2 h => ?_)
  refine wr_if_eq 27 (wg_da dt_X11_heir 6 rfl) (by decide) h (fun h => ?_) (fun h => ?_)
  · refine wr_iconst (-1 : Int32) (wg_da dt_X11_heir 12 rfl) (by decide) ?_
    exact wr_iret (wg_da dt_X11_heir 13 rfl) h
  · refine wr_iload_n (wg_da dt_X11_heir 7 rfl) rfl ?_
    refine wr_iconst (1 : Int32) (wg_da dt_X11_heir 8 rfl) (by decide) ?_
    refine wr_bipush (9 : Int32) (wg_da dt_X11_heir 9 rfl) (by decide) ?_
    refine wr_callSi [.int x2, .int (1 : Int32), .int (9 : Int32)] [] (wg_da dt_X11_heir 10 rfl) ⟨wq_3_48, wq_3_49⟩ wy_X11_within (fun q hq => m_X11_within l E x2 (1 : Int32) (9 : Int32)  _ q hq) rfl rfl (Nat.le_of_ble_eq_true rfl) ⟨rfl, rfl, by decide, by decide⟩ h (fun v3 s4 h => ?_)
    refine wr_if_ne 29 (wg_da dt_X11_heir 11 rfl) (by decide) h (fun h => ?_) (fun h => ?_)
    · refine wr_iconst (-1 : Int32) (wg_da dt_X11_heir 12 rfl) (by decide) ?_
      exact wr_iret (wg_da dt_X11_heir 13 rfl) h
    · refine wr_aload_n (wg_da dt_X11_heir 14 rfl) rfl ?_
      refine wr_getR wf_X11_47 (wg_da dt_X11_heir 15 rfl) hx0 ?_
      refine wr_iload_n (wg_da dt_X11_heir 16 rfl) rfl ?_
      refine wr_iload_n (wg_da dt_X11_heir 17 rfl) rfl ?_
      refine wr_callVi [.int x1, .int x2] [] (wg_da dt_X11_heir 18 rfl) ⟨wq_5_149, wq_5_150, wq_5_151⟩ (wg_ty Sc_ok 11 5 9 hx0 rfl (by decide)).2 ⟨rfl, by decide⟩ wy_X7_heirOf (fun q hq => m_X7_heirOf l E (wg_r Sc x0 5) x1 x2 (wg_ty Sc_ok 11 5 9 hx0 rfl (by decide)).2 _ q hq) rfl rfl (Nat.le_of_ble_eq_true rfl) ⟨rfl, rfl, by decide, by decide⟩ h (fun v5 s6 h => ?_)
      exact wr_iret (wg_da dt_X11_heir 19 rfl) h
theorem m_X11_heir (l : Launch) (E : wg_E) (x0 : Nat) (x1 : Int32) (x2 : Int32) (hx0 : wg_t Sc x0 = 13) (σ : wg_M) (q : Int32 × wg_M) (h : f_X11_heir x0 x1 x2 σ = some q) : wg_MG l E Sc yX11_heir cX11_heir 3 (some .int) rm_X11_heir [.ref x0, .int x1, .int x2] σ (some q.1) q.2 :=
  wg_met [.ref x0, .int x1, .int x2] (plainFor_of_name (by decide)) (Nat.le_of_ble_eq_true rfl) (g_X11_heir_e l E x0 x1 x2 σ q hx0 h)
abbrev rm_X11_kin : Room := { frames := 3, cells := 0, slots := 0, locals := 72 }
def tb_X11_kin : List (Nat × Instr × Nat) := [(0, .aload_n 0, 1), (1, .getfield 12, 3), (4, .getfield 51, 3), (7, .getfield 64, 3), (10, .astore_n 3, 1), (11, .aload_n 3, 1), (12, .iload_n 1, 1), (13, .invokevirtual 95, 3), (16, .ifCond .ne 5, 3), (19, .iconst (-1), 1), (20, .ireturn, 1), (21, .iload_n 2, 1), (22, .iconst (-1), 1), (23, .if_icmp .ne 12, 3), (26, .aload_n 0, 1), (27, .getfield 47, 3), (30, .iload_n 1, 1), (31, .invokevirtual 299, 3), (34, .ireturn, 1), (35, .aload_n 3, 1), (36, .iload_n 2, 1), (37, .invokevirtual 95, 3), (40, .ifCond .eq 15, 3), (43, .aload_n 0, 1), (44, .getfield 47, 3), (47, .iload_n 1, 1), (48, .iload_n 2, 1), (49, .invokevirtual 302, 3), (52, .goto 4, 3), (55, .iconst (-1), 1), (56, .ireturn, 1)]
theorem dt_X11_kin : wg_dc cX11_kin tb_X11_kin := by unfold wg_dc; decide +kernel
def f_X11_kin  (x0 : Nat) (x1 : Int32) (x2 : Int32) (σ : wg_M) : Option (Int32 × wg_M) := wg_bd (f_X9_has (wg_r Sc (wg_r Sc (wg_r Sc x0 0) 0) 0) x1 σ) (fun v1 s2 => if v1 = 0 then (some ((-1 : Int32), s2)) else (if x2 = (-1 : Int32) then (wg_bd (f_X7_rootOf (wg_r Sc x0 5) x1 s2) (fun v7 s8 => some (v7, s8))) else (wg_bd (f_X9_has (wg_r Sc (wg_r Sc (wg_r Sc x0 0) 0) 0) x2 s2) (fun v3 s4 => if v3 = 0 then (some ((-1 : Int32), s4)) else (wg_bd (f_X7_commonOf (wg_r Sc x0 5) x1 x2 s4) (fun v5 s6 => some (v5, s6)))))))
set_option maxRecDepth 20000 in
theorem g_X11_kin_e (l : Launch) (E : wg_E)  (x0 : Nat) (x1 : Int32) (x2 : Int32) (σ : wg_M) (z : Int32 × wg_M) (hx0 : wg_t Sc x0 = 13) (h : f_X11_kin  x0 x1 x2 σ = some z) : wg_G l E Sc "WornWigs" cX11_kin 4 (some .int) rm_X11_kin (some z.1) z.2 0 [some (.ref x0), some (.int x1), some (.int x2), none] [] σ := by
  refine wr_aload_n (wg_da dt_X11_kin 0 rfl) rfl ?_
  refine wr_getR wf_X11_12 (wg_da dt_X11_kin 1 rfl) hx0 ?_
  refine wr_getR wf_X11_51 (wg_da dt_X11_kin 2 rfl) (wg_ty Sc_ok 11 0 12 hx0 rfl (by decide)).2 ?_
  refine wr_getR wf_X11_64 (wg_da dt_X11_kin 3 rfl) (wg_ty Sc_ok 10 0 2 (wg_ty Sc_ok 11 0 12 hx0 rfl (by decide)).2 rfl (by decide)).2 ?_
  refine wr_astore_n (wg_da dt_X11_kin 4 rfl) (by decide) ?_
  refine wr_aload_n (wg_da dt_X11_kin 5 rfl) rfl ?_
  refine wr_iload_n (wg_da dt_X11_kin 6 rfl) rfl ?_
  refine wr_callVi [.int x1] [] (wg_da dt_X11_kin 7 rfl) ⟨wq_3_75, wq_3_76, wq_3_77⟩ (wg_ty Sc_ok 0 0 11 (wg_ty Sc_ok 10 0 2 (wg_ty Sc_ok 11 0 12 hx0 rfl (by decide)).2 rfl (by decide)).2 rfl (by decide)).2 ⟨rfl, by decide⟩ wy_X9_has (fun q hq => m_X9_has l E (wg_r Sc (wg_r Sc (wg_r Sc x0 0) 0) 0) x1 (wg_ty Sc_ok 0 0 11 (wg_ty Sc_ok 10 0 2 (wg_ty Sc_ok 11 0 12 hx0 rfl (by decide)).2 rfl (by decide)).2 rfl (by decide)).2 _ q hq) rfl rfl (Nat.le_of_ble_eq_true rfl) ⟨rfl, rfl, by decide, by decide⟩ h (fun v1 s2 h => ?_)
  refine wr_if_ne 21 (wg_da dt_X11_kin 8 rfl) (by decide) h (fun h => ?_) (fun h => ?_)
  · refine wr_iconst (-1 : Int32) (wg_da dt_X11_kin 9 rfl) (by decide) ?_
    exact wr_iret (wg_da dt_X11_kin 10 rfl) h
  · refine wr_iload_n (wg_da dt_X11_kin 11 rfl) rfl ?_
    refine wr_iconst (-1 : Int32) (wg_da dt_X11_kin 12 rfl) (by decide) ?_
    refine wr_icmp_ne 35 (wg_da dt_X11_kin 13 rfl) (by decide) h (fun h => ?_) (fun h => ?_)
    · refine wr_aload_n (wg_da dt_X11_kin 14 rfl) rfl ?_
      refine wr_getR wf_X11_47 (wg_da dt_X11_kin 15 rfl) hx0 ?_
      refine wr_iload_n (wg_da dt_X11_kin 16 rfl) rfl ?_
      refine wr_callVi [.int x1] [] (wg_da dt_X11_kin 17 rfl) ⟨wq_5_159, wq_5_160, wq_5_161⟩ (wg_ty Sc_ok 11 5 9 hx0 rfl (by decide)).2 ⟨rfl, by decide⟩ wy_X7_rootOf (fun q hq => m_X7_rootOf l E (wg_r Sc x0 5) x1 (wg_ty Sc_ok 11 5 9 hx0 rfl (by decide)).2 _ q hq) rfl rfl (Nat.le_of_ble_eq_true rfl) ⟨rfl, rfl, by decide, by decide⟩ h (fun v7 s8 h => ?_)
      exact wr_iret (wg_da dt_X11_kin 18 rfl) h
    · refine wr_aload_n (wg_da dt_X11_kin 19 rfl) rfl ?_
      refine wr_iload_n (wg_da dt_X11_kin 20 rfl) rfl ?_
      refine wr_callVi [.int x2] [] (wg_da dt_X11_kin 21 rfl) ⟨wq_3_75, wq_3_76, wq_3_77⟩ (wg_ty Sc_ok 0 0 11 (wg_ty Sc_ok 10 0 2 (wg_ty Sc_ok 11 0 12 hx0 rfl (by decide)).2 rfl (by decide)).2 rfl (by decide)).2 ⟨rfl, by decide⟩ wy_X9_has (fun q hq => m_X9_has l E (wg_r Sc (wg_r Sc (wg_r Sc x0 0) 0) 0) x2 (wg_ty Sc_ok 0 0 11 (wg_ty Sc_ok 10 0 2 (wg_ty Sc_ok 11 0 12 hx0 rfl (by decide)).2 rfl (by decide)).2 rfl (by decide)).2 _ q hq) rfl rfl (Nat.le_of_ble_eq_true rfl) ⟨rfl, rfl, by decide, by decide⟩ h (fun v3 s4 h => ?_)
      refine wr_if_eq 55 (wg_da dt_X11_kin 22 rfl) (by decide) h (fun h => ?_) (fun h => ?_)
      · refine wr_iconst (-1 : Int32) (wg_da dt_X11_kin 29 rfl) (by decide) ?_
        exact wr_iret (wg_da dt_X11_kin 30 rfl) h
      · refine wr_aload_n (wg_da dt_X11_kin 23 rfl) rfl ?_
        refine wr_getR wf_X11_47 (wg_da dt_X11_kin 24 rfl) hx0 ?_
        refine wr_iload_n (wg_da dt_X11_kin 25 rfl) rfl ?_
        refine wr_iload_n (wg_da dt_X11_kin 26 rfl) rfl ?_
        refine wr_callVi [.int x1, .int x2] [] (wg_da dt_X11_kin 27 rfl) ⟨wq_5_167, wq_5_168, wq_5_169⟩ (wg_ty Sc_ok 11 5 9 hx0 rfl (by decide)).2 ⟨rfl, by decide⟩ wy_X7_commonOf (fun q hq => m_X7_commonOf l E (wg_r Sc x0 5) x1 x2 (wg_ty Sc_ok 11 5 9 hx0 rfl (by decide)).2 _ q hq) rfl rfl (Nat.le_of_ble_eq_true rfl) ⟨rfl, rfl, by decide, by decide⟩ h (fun v5 s6 h => ?_)
        refine wr_goto 56 (wg_da dt_X11_kin 28 rfl) (by decide) ?_
        exact wr_iret (wg_da dt_X11_kin 30 rfl) h
theorem m_X11_kin (l : Launch) (E : wg_E) (x0 : Nat) (x1 : Int32) (x2 : Int32) (hx0 : wg_t Sc x0 = 13) (σ : wg_M) (q : Int32 × wg_M) (h : f_X11_kin x0 x1 x2 σ = some q) : wg_MG l E Sc yX11_kin cX11_kin 4 (some .int) rm_X11_kin [.ref x0, .int x1, .int x2] σ (some q.1) q.2 :=
  wg_met [.ref x0, .int x1, .int x2] (plainFor_of_name (by decide)) (Nat.le_of_ble_eq_true rfl) (g_X11_kin_e l E x0 x1 x2 σ q hx0 h)
abbrev rm_X11_saves : Room := { frames := 2, cells := 0, slots := 0, locals := 47 }
def tb_X11_saves : List (Nat × Instr × Nat) := [(0, .iload_n 1, 1), (1, .iconst 1, 1), (2, .sipush 400, 3), (5, .invokestatic 73, 3), (8, .ifCond .eq 12, 3), (11, .iload_n 2, 1), (12, .iconst 0, 1), (13, .iconst 1, 1), (14, .invokestatic 73, 3), (17, .ifCond .ne 5, 3), (20, .iconst (-1), 1), (21, .ireturn, 1), (22, .aload_n 0, 1), (23, .getfield 12, 3), (26, .getfield 51, 3), (29, .getfield 64, 3), (32, .iload_n 1, 1), (33, .invokevirtual 305, 3), (36, .istore_n 3, 1), (37, .iload_n 2, 1), (38, .ifCond .ne 20, 3), (41, .aload_n 0, 1), (42, .getfield 12, 3), (45, .getfield 51, 3), (48, .getfield 64, 3), (51, .iload_n 3, 1), (52, .invokevirtual 308, 3), (55, .goto 4, 3), (58, .iload_n 3, 1), (59, .ireturn, 1)]
theorem dt_X11_saves : wg_dc cX11_saves tb_X11_saves := by unfold wg_dc; decide +kernel
def f_X11_saves  (x0 : Nat) (x1 : Int32) (x2 : Int32) (σ : wg_M) : Option (Int32 × wg_M) := wg_bd (f_X11_within x1 (1 : Int32) (400 : Int32) σ) (fun v1 s2 => if v1 = 0 then (some ((-1 : Int32), s2)) else (wg_bd (f_X11_within x2 (0 : Int32) (1 : Int32) s2) (fun v3 s4 => if v3 = 0 then (some ((-1 : Int32), s4)) else (wg_bd (f_X9_toSave (wg_r Sc (wg_r Sc (wg_r Sc x0 0) 0) 0) x1 s4) (fun v5 s6 => if x2 = 0 then (wg_bd (f_X9_worthOf (wg_r Sc (wg_r Sc (wg_r Sc x0 0) 0) 0) v5 s6) (fun v7 s8 => some (v7, s8))) else (some (v5, s6)))))))
set_option maxRecDepth 20000 in
theorem g_X11_saves_e (l : Launch) (E : wg_E)  (x0 : Nat) (x1 : Int32) (x2 : Int32) (σ : wg_M) (z : Int32 × wg_M) (hx0 : wg_t Sc x0 = 13) (h : f_X11_saves  x0 x1 x2 σ = some z) : wg_G l E Sc "WornWigs" cX11_saves 4 (some .int) rm_X11_saves (some z.1) z.2 0 [some (.ref x0), some (.int x1), some (.int x2), none] [] σ := by
  refine wr_iload_n (wg_da dt_X11_saves 0 rfl) rfl ?_
  refine wr_iconst (1 : Int32) (wg_da dt_X11_saves 1 rfl) (by decide) ?_
  refine wr_sipush (400 : Int32) (wg_da dt_X11_saves 2 rfl) (by decide) ?_
  refine wr_callSi [.int x1, .int (1 : Int32), .int (400 : Int32)] [] (wg_da dt_X11_saves 3 rfl) ⟨wq_3_48, wq_3_49⟩ wy_X11_within (fun q hq => m_X11_within l E x1 (1 : Int32) (400 : Int32)  _ q hq) rfl rfl (Nat.le_of_ble_eq_true rfl) ⟨rfl, rfl, by decide, by decide⟩ h (fun v1 s2 h => ?_)
  refine wr_if_eq 20 (wg_da dt_X11_saves 4 rfl) (by decide) h (fun h => ?_) (fun h => ?_)
  · refine wr_iconst (-1 : Int32) (wg_da dt_X11_saves 10 rfl) (by decide) ?_
    exact wr_iret (wg_da dt_X11_saves 11 rfl) h
  · refine wr_iload_n (wg_da dt_X11_saves 5 rfl) rfl ?_
    refine wr_iconst (0 : Int32) (wg_da dt_X11_saves 6 rfl) (by decide) ?_
    refine wr_iconst (1 : Int32) (wg_da dt_X11_saves 7 rfl) (by decide) ?_
    refine wr_callSi [.int x2, .int (0 : Int32), .int (1 : Int32)] [] (wg_da dt_X11_saves 8 rfl) ⟨wq_3_48, wq_3_49⟩ wy_X11_within (fun q hq => m_X11_within l E x2 (0 : Int32) (1 : Int32)  _ q hq) rfl rfl (Nat.le_of_ble_eq_true rfl) ⟨rfl, rfl, by decide, by decide⟩ h (fun v3 s4 h => ?_)
    refine wr_if_ne 22 (wg_da dt_X11_saves 9 rfl) (by decide) h (fun h => ?_) (fun h => ?_)
    · refine wr_iconst (-1 : Int32) (wg_da dt_X11_saves 10 rfl) (by decide) ?_
      exact wr_iret (wg_da dt_X11_saves 11 rfl) h
    · refine wr_aload_n (wg_da dt_X11_saves 12 rfl) rfl ?_
      refine wr_getR wf_X11_12 (wg_da dt_X11_saves 13 rfl) hx0 ?_
      refine wr_getR wf_X11_51 (wg_da dt_X11_saves 14 rfl) (wg_ty Sc_ok 11 0 12 hx0 rfl (by decide)).2 ?_
      refine wr_getR wf_X11_64 (wg_da dt_X11_saves 15 rfl) (wg_ty Sc_ok 10 0 2 (wg_ty Sc_ok 11 0 12 hx0 rfl (by decide)).2 rfl (by decide)).2 ?_
      refine wr_iload_n (wg_da dt_X11_saves 16 rfl) rfl ?_
      refine wr_callVi [.int x1] [] (wg_da dt_X11_saves 17 rfl) ⟨wq_5_179, wq_5_180, wq_5_181⟩ (wg_ty Sc_ok 0 0 11 (wg_ty Sc_ok 10 0 2 (wg_ty Sc_ok 11 0 12 hx0 rfl (by decide)).2 rfl (by decide)).2 rfl (by decide)).2 ⟨rfl, by decide⟩ wy_X9_toSave (fun q hq => m_X9_toSave l E (wg_r Sc (wg_r Sc (wg_r Sc x0 0) 0) 0) x1 (wg_ty Sc_ok 0 0 11 (wg_ty Sc_ok 10 0 2 (wg_ty Sc_ok 11 0 12 hx0 rfl (by decide)).2 rfl (by decide)).2 rfl (by decide)).2 _ q hq) rfl rfl (Nat.le_of_ble_eq_true rfl) ⟨rfl, rfl, by decide, by decide⟩ h (fun v5 s6 h => ?_)
      refine wr_istore_n (wg_da dt_X11_saves 18 rfl) (by decide) ?_
      refine wr_iload_n (wg_da dt_X11_saves 19 rfl) rfl ?_
      refine wr_if_ne 58 (wg_da dt_X11_saves 20 rfl) (by decide) h (fun h => ?_) (fun h => ?_)
      · refine wr_aload_n (wg_da dt_X11_saves 21 rfl) rfl ?_
        refine wr_getR wf_X11_12 (wg_da dt_X11_saves 22 rfl) hx0 ?_
        refine wr_getR wf_X11_51 (wg_da dt_X11_saves 23 rfl) (wg_ty Sc_ok 11 0 12 hx0 rfl (by decide)).2 ?_
        refine wr_getR wf_X11_64 (wg_da dt_X11_saves 24 rfl) (wg_ty Sc_ok 10 0 2 (wg_ty Sc_ok 11 0 12 hx0 rfl (by decide)).2 rfl (by decide)).2 ?_
        refine wr_iload_n (wg_da dt_X11_saves 25 rfl) rfl ?_
        refine wr_callVi [.int v5] [] (wg_da dt_X11_saves 26 rfl) ⟨wq_5_188, wq_5_185, wq_5_186⟩ (wg_ty Sc_ok 0 0 11 (wg_ty Sc_ok 10 0 2 (wg_ty Sc_ok 11 0 12 hx0 rfl (by decide)).2 rfl (by decide)).2 rfl (by decide)).2 ⟨rfl, by decide⟩ wy_X9_worthOf (fun q hq => m_X9_worthOf l E (wg_r Sc (wg_r Sc (wg_r Sc x0 0) 0) 0) v5 (wg_ty Sc_ok 0 0 11 (wg_ty Sc_ok 10 0 2 (wg_ty Sc_ok 11 0 12 hx0 rfl (by decide)).2 rfl (by decide)).2 rfl (by decide)).2 _ q hq) rfl rfl (Nat.le_of_ble_eq_true rfl) ⟨rfl, rfl, by decide, by decide⟩ h (fun v7 s8 h => ?_)
        refine wr_goto 59 (wg_da dt_X11_saves 27 rfl) (by decide) ?_
        exact wr_iret (wg_da dt_X11_saves 29 rfl) h
      · refine wr_iload_n (wg_da dt_X11_saves 28 rfl) rfl ?_
        exact wr_iret (wg_da dt_X11_saves 29 rfl) h
theorem m_X11_saves (l : Launch) (E : wg_E) (x0 : Nat) (x1 : Int32) (x2 : Int32) (hx0 : wg_t Sc x0 = 13) (σ : wg_M) (q : Int32 × wg_M) (h : f_X11_saves x0 x1 x2 σ = some q) : wg_MG l E Sc yX11_saves cX11_saves 4 (some .int) rm_X11_saves [.ref x0, .int x1, .int x2] σ (some q.1) q.2 :=
  wg_met [.ref x0, .int x1, .int x2] (plainFor_of_name (by decide)) (Nat.le_of_ble_eq_true rfl) (g_X11_saves_e l E x0 x1 x2 σ q hx0 h)
abbrev rm_X11_panels : Room := { frames := 7, cells := 0, slots := 0, locals := 172 }
def tb_X11_panels : List (Nat × Instr × Nat) := [(0, .aload_n 0, 1), (1, .getfield 12, 3), (4, .getfield 51, 3), (7, .iload_n 1, 1), (8, .invokevirtual 121, 3), (11, .ifCond .ne 5, 3), (14, .iconst (-1), 1), (15, .ireturn, 1), (16, .iload_n 2, 1), (17, .ifCond .ne 12, 3), (20, .aload_n 0, 1), (21, .getfield 47, 3), (24, .iload_n 1, 1), (25, .invokevirtual 311, 3), (28, .ireturn, 1), (29, .iload_n 2, 1), (30, .bipush 10, 2), (32, .if_icmp .lt 23, 3), (35, .aload_n 0, 1), (36, .getfield 12, 3), (39, .getfield 51, 3), (42, .getfield 81, 3), (45, .iload_n 2, 1), (46, .bipush 10, 2), (48, .isub, 1), (49, .invokevirtual 107, 3), (52, .ifCond .ne 5, 3), (55, .iconst (-1), 1), (56, .ireturn, 1), (57, .aload_n 0, 1), (58, .getfield 47, 3), (61, .iload_n 1, 1), (62, .iload_n 2, 1), (63, .bipush 10, 2), (65, .isub, 1), (66, .invokevirtual 314, 3), (69, .ireturn, 1)]
theorem dt_X11_panels : wg_dc cX11_panels tb_X11_panels := by unfold wg_dc; decide +kernel
def f_X11_panels  (x0 : Nat) (x1 : Int32) (x2 : Int32) (σ : wg_M) : Option (Int32 × wg_M) := wg_bd (f_X0_hasCase (wg_r Sc (wg_r Sc x0 0) 0) x1 σ) (fun v1 s2 => if v1 = 0 then (some ((-1 : Int32), s2)) else (if x2 = 0 then (wg_bd (f_X7_panelsFor (wg_r Sc x0 5) x1 s2) (fun v7 s8 => some (v7, s8))) else (if x2 < (10 : Int32) then (some ((-1 : Int32), s2)) else (wg_bd (f_X2_has (wg_r Sc (wg_r Sc (wg_r Sc x0 0) 0) 1) (x2 - (10 : Int32)) s2) (fun v3 s4 => if v3 = 0 then (some ((-1 : Int32), s4)) else (wg_bd (f_X7_turnsOf (wg_r Sc x0 5) x1 (x2 - (10 : Int32)) s4) (fun v5 s6 => some (v5, s6))))))))
set_option maxRecDepth 20000 in
theorem g_X11_panels_e (l : Launch) (E : wg_E)  (x0 : Nat) (x1 : Int32) (x2 : Int32) (σ : wg_M) (z : Int32 × wg_M) (hx0 : wg_t Sc x0 = 13) (h : f_X11_panels  x0 x1 x2 σ = some z) : wg_G l E Sc "WornWigs" cX11_panels 3 (some .int) rm_X11_panels (some z.1) z.2 0 [some (.ref x0), some (.int x1), some (.int x2)] [] σ := by
  refine wr_aload_n (wg_da dt_X11_panels 0 rfl) rfl ?_
  refine wr_getR wf_X11_12 (wg_da dt_X11_panels 1 rfl) hx0 ?_
  refine wr_getR wf_X11_51 (wg_da dt_X11_panels 2 rfl) (wg_ty Sc_ok 11 0 12 hx0 rfl (by decide)).2 ?_
  refine wr_iload_n (wg_da dt_X11_panels 3 rfl) rfl ?_
  refine wr_callVi [.int x1] [] (wg_da dt_X11_panels 4 rfl) ⟨wq_3_112, wq_3_113, wq_3_114⟩ (wg_ty Sc_ok 10 0 2 (wg_ty Sc_ok 11 0 12 hx0 rfl (by decide)).2 rfl (by decide)).2 ⟨rfl, by decide⟩ wy_X0_hasCase (fun q hq => m_X0_hasCase l E (wg_r Sc (wg_r Sc x0 0) 0) x1 (wg_ty Sc_ok 10 0 2 (wg_ty Sc_ok 11 0 12 hx0 rfl (by decide)).2 rfl (by decide)).2 _ q hq) rfl rfl (Nat.le_of_ble_eq_true rfl) ⟨rfl, rfl, by decide, by decide⟩ h (fun v1 s2 h => ?_)
  refine wr_if_ne 16 (wg_da dt_X11_panels 5 rfl) (by decide) h (fun h => ?_) (fun h => ?_)
  · refine wr_iconst (-1 : Int32) (wg_da dt_X11_panels 6 rfl) (by decide) ?_
    exact wr_iret (wg_da dt_X11_panels 7 rfl) h
  · refine wr_iload_n (wg_da dt_X11_panels 8 rfl) rfl ?_
    refine wr_if_ne 29 (wg_da dt_X11_panels 9 rfl) (by decide) h (fun h => ?_) (fun h => ?_)
    · refine wr_aload_n (wg_da dt_X11_panels 10 rfl) rfl ?_
      refine wr_getR wf_X11_47 (wg_da dt_X11_panels 11 rfl) hx0 ?_
      refine wr_iload_n (wg_da dt_X11_panels 12 rfl) rfl ?_
      refine wr_callVi [.int x1] [] (wg_da dt_X11_panels 13 rfl) ⟨wq_5_193, wq_5_194, wq_5_195⟩ (wg_ty Sc_ok 11 5 9 hx0 rfl (by decide)).2 ⟨rfl, by decide⟩ wy_X7_panelsFor (fun q hq => m_X7_panelsFor l E (wg_r Sc x0 5) x1 (wg_ty Sc_ok 11 5 9 hx0 rfl (by decide)).2 _ q hq) rfl rfl (Nat.le_of_ble_eq_true rfl) ⟨rfl, rfl, by decide, by decide⟩ h (fun v7 s8 h => ?_)
      exact wr_iret (wg_da dt_X11_panels 14 rfl) h
    · refine wr_iload_n (wg_da dt_X11_panels 15 rfl) rfl ?_
      refine wr_bipush (10 : Int32) (wg_da dt_X11_panels 16 rfl) (by decide) ?_
      refine wr_icmp_lt 55 (wg_da dt_X11_panels 17 rfl) (by decide) h (fun h => ?_) (fun h => ?_)
      · refine wr_iconst (-1 : Int32) (wg_da dt_X11_panels 27 rfl) (by decide) ?_
        exact wr_iret (wg_da dt_X11_panels 28 rfl) h
      · refine wr_aload_n (wg_da dt_X11_panels 18 rfl) rfl ?_
        refine wr_getR wf_X11_12 (wg_da dt_X11_panels 19 rfl) hx0 ?_
        refine wr_getR wf_X11_51 (wg_da dt_X11_panels 20 rfl) (wg_ty Sc_ok 11 0 12 hx0 rfl (by decide)).2 ?_
        refine wr_getR wf_X11_81 (wg_da dt_X11_panels 21 rfl) (wg_ty Sc_ok 10 0 2 (wg_ty Sc_ok 11 0 12 hx0 rfl (by decide)).2 rfl (by decide)).2 ?_
        refine wr_iload_n (wg_da dt_X11_panels 22 rfl) rfl ?_
        refine wr_bipush (10 : Int32) (wg_da dt_X11_panels 23 rfl) (by decide) ?_
        refine wr_isub (wg_da dt_X11_panels 24 rfl) ?_
        refine wr_callVi [.int (x2 - (10 : Int32))] [] (wg_da dt_X11_panels 25 rfl) ⟨wq_3_104, wq_3_105, wq_3_106⟩ (wg_ty Sc_ok 0 1 4 (wg_ty Sc_ok 10 0 2 (wg_ty Sc_ok 11 0 12 hx0 rfl (by decide)).2 rfl (by decide)).2 rfl (by decide)).2 ⟨rfl, by decide⟩ wy_X2_has (fun q hq => m_X2_has l E (wg_r Sc (wg_r Sc (wg_r Sc x0 0) 0) 1) (x2 - (10 : Int32)) (wg_ty Sc_ok 0 1 4 (wg_ty Sc_ok 10 0 2 (wg_ty Sc_ok 11 0 12 hx0 rfl (by decide)).2 rfl (by decide)).2 rfl (by decide)).2 _ q hq) rfl rfl (Nat.le_of_ble_eq_true rfl) ⟨rfl, rfl, by decide, by decide⟩ h (fun v3 s4 h => ?_)
        refine wr_if_ne 57 (wg_da dt_X11_panels 26 rfl) (by decide) h (fun h => ?_) (fun h => ?_)
        · refine wr_iconst (-1 : Int32) (wg_da dt_X11_panels 27 rfl) (by decide) ?_
          exact wr_iret (wg_da dt_X11_panels 28 rfl) h
        · refine wr_aload_n (wg_da dt_X11_panels 29 rfl) rfl ?_
          refine wr_getR wf_X11_47 (wg_da dt_X11_panels 30 rfl) hx0 ?_
          refine wr_iload_n (wg_da dt_X11_panels 31 rfl) rfl ?_
          refine wr_iload_n (wg_da dt_X11_panels 32 rfl) rfl ?_
          refine wr_bipush (10 : Int32) (wg_da dt_X11_panels 33 rfl) (by decide) ?_
          refine wr_isub (wg_da dt_X11_panels 34 rfl) ?_
          refine wr_callVi [.int x1, .int (x2 - (10 : Int32))] [] (wg_da dt_X11_panels 35 rfl) ⟨wq_5_201, wq_5_202, wq_5_203⟩ (wg_ty Sc_ok 11 5 9 hx0 rfl (by decide)).2 ⟨rfl, by decide⟩ wy_X7_turnsOf (fun q hq => m_X7_turnsOf l E (wg_r Sc x0 5) x1 (x2 - (10 : Int32)) (wg_ty Sc_ok 11 5 9 hx0 rfl (by decide)).2 _ q hq) rfl rfl (Nat.le_of_ble_eq_true rfl) ⟨rfl, rfl, by decide, by decide⟩ h (fun v5 s6 h => ?_)
          exact wr_iret (wg_da dt_X11_panels 36 rfl) h
theorem m_X11_panels (l : Launch) (E : wg_E) (x0 : Nat) (x1 : Int32) (x2 : Int32) (hx0 : wg_t Sc x0 = 13) (σ : wg_M) (q : Int32 × wg_M) (h : f_X11_panels x0 x1 x2 σ = some q) : wg_MG l E Sc yX11_panels cX11_panels 3 (some .int) rm_X11_panels [.ref x0, .int x1, .int x2] σ (some q.1) q.2 :=
  wg_met [.ref x0, .int x1, .int x2] (plainFor_of_name (by decide)) (Nat.le_of_ble_eq_true rfl) (g_X11_panels_e l E x0 x1 x2 σ q hx0 h)
abbrev rm_X11_trait : Room := { frames := 2, cells := 0, slots := 0, locals := 46 }
def tb_X11_trait : List (Nat × Instr × Nat) := [(0, .iload_n 1, 1), (1, .iconst (-1), 1), (2, .if_icmp .ne 16, 3), (5, .aload_n 0, 1), (6, .getfield 12, 3), (9, .getfield 317, 3), (12, .iconst 0, 1), (13, .putfield 321, 3), (16, .iconst 0, 1), (17, .ireturn, 1), (18, .aload_n 0, 1), (19, .getfield 12, 3), (22, .getfield 317, 3), (25, .iload_n 1, 1), (26, .iload_n 2, 1), (27, .iload_n 3, 1), (28, .ifCond .eq 7, 3), (31, .iconst 1, 1), (32, .goto 4, 3), (35, .iconst 0, 1), (36, .invokevirtual 326, 3), (39, .ireturn, 1)]
theorem dt_X11_trait : wg_dc cX11_trait tb_X11_trait := by unfold wg_dc; decide +kernel
def f_X11_trait_36  (t0 : Int32) (t1 : Int32) (t2 : Int32) (t3 : Nat) (σ : wg_M) : Option (Int32 × wg_M) := wg_bd (f_X8_addTrait t3 t2 t1 t0 σ) (fun v1 s2 => some (v1, s2))
def f_X11_trait  (x0 : Nat) (x1 : Int32) (x2 : Int32) (x3 : Int32) (σ : wg_M) : Option (Int32 × wg_M) := if x1 = (-1 : Int32) then (wg_st σ (wg_r Sc (wg_r Sc x0 0) 6) 3 (0 : Int32) (fun s1 => some ((0 : Int32), s1))) else (if x3 = 0 then (f_X11_trait_36  (0 : Int32) x2 x1 (wg_r Sc (wg_r Sc x0 0) 6) σ) else (f_X11_trait_36  (1 : Int32) x2 x1 (wg_r Sc (wg_r Sc x0 0) 6) σ))
set_option maxRecDepth 20000 in
theorem g_X11_trait_36 (l : Launch) (E : wg_E)  (t0 : Int32) (t1 : Int32) (t2 : Int32) (t3 : Nat) (σ : wg_M) (z : Int32 × wg_M) (ht3 : wg_t Sc t3 = 10) (h : f_X11_trait_36  t0 t1 t2 t3 σ = some z) : wg_G l E Sc "WornWigs" cX11_trait 4 (some .int) rm_X11_trait (some z.1) z.2 36 [none, none, none, none] [.int t0, .int t1, .int t2, .ref t3] σ := by
  refine wr_callVi [.int t2, .int t1, .int t0] [] (wg_da dt_X11_trait 20 rfl) ⟨wq_5_209, wq_5_210, wq_5_211⟩ ht3 ⟨rfl, by decide⟩ wy_X8_addTrait (fun q hq => m_X8_addTrait l E t3 t2 t1 t0 ht3 _ q hq) rfl rfl (Nat.le_of_ble_eq_true rfl) ⟨rfl, rfl, by decide, by decide⟩ h (fun v1 s2 h => ?_)
  exact wr_iret (wg_da dt_X11_trait 21 rfl) h
set_option maxRecDepth 20000 in
theorem g_X11_trait_e (l : Launch) (E : wg_E)  (x0 : Nat) (x1 : Int32) (x2 : Int32) (x3 : Int32) (σ : wg_M) (z : Int32 × wg_M) (hx0 : wg_t Sc x0 = 13) (h : f_X11_trait  x0 x1 x2 x3 σ = some z) : wg_G l E Sc "WornWigs" cX11_trait 4 (some .int) rm_X11_trait (some z.1) z.2 0 [some (.ref x0), some (.int x1), some (.int x2), some (.int x3)] [] σ := by
  refine wr_iload_n (wg_da dt_X11_trait 0 rfl) rfl ?_
  refine wr_iconst (-1 : Int32) (wg_da dt_X11_trait 1 rfl) (by decide) ?_
  refine wr_icmp_ne 18 (wg_da dt_X11_trait 2 rfl) (by decide) h (fun h => ?_) (fun h => ?_)
  · refine wr_aload_n (wg_da dt_X11_trait 3 rfl) rfl ?_
    refine wr_getR wf_X11_12 (wg_da dt_X11_trait 4 rfl) hx0 ?_
    refine wr_getR wf_X11_317 (wg_da dt_X11_trait 5 rfl) (wg_ty Sc_ok 11 0 12 hx0 rfl (by decide)).2 ?_
    refine wr_iconst (0 : Int32) (wg_da dt_X11_trait 6 rfl) (by decide) ?_
    refine wr_putI wfp_X11_321 (wg_da dt_X11_trait 7 rfl) (wg_ty Sc_ok 10 6 10 (wg_ty Sc_ok 11 0 12 hx0 rfl (by decide)).2 rfl (by decide)).2 h (fun s1 h => ?_)
    refine wr_iconst (0 : Int32) (wg_da dt_X11_trait 8 rfl) (by decide) ?_
    exact wr_iret (wg_da dt_X11_trait 9 rfl) h
  · refine wr_aload_n (wg_da dt_X11_trait 10 rfl) rfl ?_
    refine wr_getR wf_X11_12 (wg_da dt_X11_trait 11 rfl) hx0 ?_
    refine wr_getR wf_X11_317 (wg_da dt_X11_trait 12 rfl) (wg_ty Sc_ok 11 0 12 hx0 rfl (by decide)).2 ?_
    refine wr_iload_n (wg_da dt_X11_trait 13 rfl) rfl ?_
    refine wr_iload_n (wg_da dt_X11_trait 14 rfl) rfl ?_
    refine wr_iload_n (wg_da dt_X11_trait 15 rfl) rfl ?_
    refine wr_if_eq 35 (wg_da dt_X11_trait 16 rfl) (by decide) h (fun h => ?_) (fun h => ?_)
    · refine wr_iconst (0 : Int32) (wg_da dt_X11_trait 19 rfl) (by decide) ?_
      exact wr_wk [false, false, false, false] (g_X11_trait_36 l E  (0 : Int32) x2 x1 (wg_r Sc (wg_r Sc x0 0) 6) σ _ (wg_ty Sc_ok 10 6 10 (wg_ty Sc_ok 11 0 12 hx0 rfl (by decide)).2 rfl (by decide)).2  h)
    · refine wr_iconst (1 : Int32) (wg_da dt_X11_trait 17 rfl) (by decide) ?_
      refine wr_goto 36 (wg_da dt_X11_trait 18 rfl) (by decide) ?_
      exact wr_wk [false, false, false, false] (g_X11_trait_36 l E  (1 : Int32) x2 x1 (wg_r Sc (wg_r Sc x0 0) 6) σ _ (wg_ty Sc_ok 10 6 10 (wg_ty Sc_ok 11 0 12 hx0 rfl (by decide)).2 rfl (by decide)).2  h)
theorem m_X11_trait (l : Launch) (E : wg_E) (x0 : Nat) (x1 : Int32) (x2 : Int32) (x3 : Int32) (hx0 : wg_t Sc x0 = 13) (σ : wg_M) (q : Int32 × wg_M) (h : f_X11_trait x0 x1 x2 x3 σ = some q) : wg_MG l E Sc yX11_trait cX11_trait 4 (some .int) rm_X11_trait [.ref x0, .int x1, .int x2, .int x3] σ (some q.1) q.2 :=
  wg_met [.ref x0, .int x1, .int x2, .int x3] (plainFor_of_name (by decide)) (Nat.le_of_ble_eq_true rfl) (g_X11_trait_e l E x0 x1 x2 x3 σ q hx0 h)
abbrev rm_X11_whose : Room := { frames := 5, cells := 0, slots := 0, locals := 119 }
def tb_X11_whose : List (Nat × Instr × Nat) := [(0, .iload_n 1, 1), (1, .lookupswitch 43 #[(0, 27), (1, 35)], 27), (28, .aload_n 0, 1), (29, .getfield 47, 3), (32, .invokevirtual 329, 3), (35, .ireturn, 1), (36, .aload_n 0, 1), (37, .getfield 47, 3), (40, .invokevirtual 332, 3), (43, .ireturn, 1), (44, .iconst (-1), 1), (45, .ireturn, 1)]
theorem dt_X11_whose : wg_dc cX11_whose tb_X11_whose := by unfold wg_dc; decide +kernel
def f_X11_whose  (x0 : Nat) (x1 : Int32) (σ : wg_M) : Option (Int32 × wg_M) := wg_lz x1 [0, 1] [wg_bd (f_X7_whoseSet (wg_r Sc x0 5) σ) (fun v1 s2 => some (v1, s2)), wg_bd (f_X7_causeToLookAt (wg_r Sc x0 5) σ) (fun v3 s4 => some (v3, s4))] (some ((-1 : Int32), σ))
set_option maxRecDepth 20000 in
theorem g_X11_whose_e (l : Launch) (E : wg_E)  (x0 : Nat) (x1 : Int32) (σ : wg_M) (z : Int32 × wg_M) (hx0 : wg_t Sc x0 = 13) (h : f_X11_whose  x0 x1 σ = some z) : wg_G l E Sc "WornWigs" cX11_whose 2 (some .int) rm_X11_whose (some z.1) z.2 0 [some (.ref x0), some (.int x1)] [] σ := by
  refine wr_iload_n (wg_da dt_X11_whose 0 rfl) rfl ?_
  refine wr_lsw [0, 1] [28, 36] 44 (wg_da dt_X11_whose 1 rfl) (by decide) (by decide) (by decide) rfl (by decide) h (wg_all_c (fun h => ?_) (wg_all_c (fun h => ?_) (wg_all_n))) (fun h => ?_)
  · refine wr_aload_n (wg_da dt_X11_whose 2 rfl) rfl ?_
    refine wr_getR wf_X11_47 (wg_da dt_X11_whose 3 rfl) hx0 ?_
    refine wr_callVi [] [] (wg_da dt_X11_whose 4 rfl) ⟨wq_5_218, wq_5_219, wq_5_220⟩ (wg_ty Sc_ok 11 5 9 hx0 rfl (by decide)).2 ⟨rfl, by decide⟩ wy_X7_whoseSet (fun q hq => m_X7_whoseSet l E (wg_r Sc x0 5) (wg_ty Sc_ok 11 5 9 hx0 rfl (by decide)).2 _ q hq) rfl rfl (Nat.le_of_ble_eq_true rfl) ⟨rfl, rfl, by decide, by decide⟩ h (fun v1 s2 h => ?_)
    exact wr_iret (wg_da dt_X11_whose 5 rfl) h
  · refine wr_aload_n (wg_da dt_X11_whose 6 rfl) rfl ?_
    refine wr_getR wf_X11_47 (wg_da dt_X11_whose 7 rfl) hx0 ?_
    refine wr_callVi [] [] (wg_da dt_X11_whose 8 rfl) ⟨wq_5_231, wq_5_232, wq_5_233⟩ (wg_ty Sc_ok 11 5 9 hx0 rfl (by decide)).2 ⟨rfl, by decide⟩ wy_X7_causeToLookAt (fun q hq => m_X7_causeToLookAt l E (wg_r Sc x0 5) (wg_ty Sc_ok 11 5 9 hx0 rfl (by decide)).2 _ q hq) rfl rfl (Nat.le_of_ble_eq_true rfl) ⟨rfl, rfl, by decide, by decide⟩ h (fun v3 s4 h => ?_)
    exact wr_iret (wg_da dt_X11_whose 9 rfl) h
  · refine wr_iconst (-1 : Int32) (wg_da dt_X11_whose 10 rfl) (by decide) ?_
    exact wr_iret (wg_da dt_X11_whose 11 rfl) h
theorem m_X11_whose (l : Launch) (E : wg_E) (x0 : Nat) (x1 : Int32) (hx0 : wg_t Sc x0 = 13) (σ : wg_M) (q : Int32 × wg_M) (h : f_X11_whose x0 x1 σ = some q) : wg_MG l E Sc yX11_whose cX11_whose 2 (some .int) rm_X11_whose [.ref x0, .int x1] σ (some q.1) q.2 :=
  wg_met [.ref x0, .int x1] (plainFor_of_name (by decide)) (Nat.le_of_ble_eq_true rfl) (g_X11_whose_e l E x0 x1 σ q hx0 h)
abbrev rm_X11_cite : Room := { frames := 2, cells := 0, slots := 0, locals := 45 }
def tb_X11_cite : List (Nat × Instr × Nat) := [(0, .iload_n 1, 1), (1, .iconst (-1), 1), (2, .if_icmp .ne 16, 3), (5, .aload_n 0, 1), (6, .getfield 12, 3), (9, .getfield 317, 3), (12, .iconst 0, 1), (13, .putfield 335, 3), (16, .iconst 0, 1), (17, .ireturn, 1), (18, .aload_n 0, 1), (19, .getfield 12, 3), (22, .getfield 317, 3), (25, .iload_n 1, 1), (26, .iload_n 2, 1), (27, .invokevirtual 338, 3), (30, .ireturn, 1)]
theorem dt_X11_cite : wg_dc cX11_cite tb_X11_cite := by unfold wg_dc; decide +kernel
def f_X11_cite  (x0 : Nat) (x1 : Int32) (x2 : Int32) (σ : wg_M) : Option (Int32 × wg_M) := if x1 = (-1 : Int32) then (wg_st σ (wg_r Sc (wg_r Sc x0 0) 6) 6 (0 : Int32) (fun s3 => some ((0 : Int32), s3))) else (wg_bd (f_X8_addCite (wg_r Sc (wg_r Sc x0 0) 6) x1 x2 σ) (fun v1 s2 => some (v1, s2)))
set_option maxRecDepth 20000 in
theorem g_X11_cite_e (l : Launch) (E : wg_E)  (x0 : Nat) (x1 : Int32) (x2 : Int32) (σ : wg_M) (z : Int32 × wg_M) (hx0 : wg_t Sc x0 = 13) (h : f_X11_cite  x0 x1 x2 σ = some z) : wg_G l E Sc "WornWigs" cX11_cite 3 (some .int) rm_X11_cite (some z.1) z.2 0 [some (.ref x0), some (.int x1), some (.int x2)] [] σ := by
  refine wr_iload_n (wg_da dt_X11_cite 0 rfl) rfl ?_
  refine wr_iconst (-1 : Int32) (wg_da dt_X11_cite 1 rfl) (by decide) ?_
  refine wr_icmp_ne 18 (wg_da dt_X11_cite 2 rfl) (by decide) h (fun h => ?_) (fun h => ?_)
  · refine wr_aload_n (wg_da dt_X11_cite 3 rfl) rfl ?_
    refine wr_getR wf_X11_12 (wg_da dt_X11_cite 4 rfl) hx0 ?_
    refine wr_getR wf_X11_317 (wg_da dt_X11_cite 5 rfl) (wg_ty Sc_ok 11 0 12 hx0 rfl (by decide)).2 ?_
    refine wr_iconst (0 : Int32) (wg_da dt_X11_cite 6 rfl) (by decide) ?_
    refine wr_putI wfp_X11_335 (wg_da dt_X11_cite 7 rfl) (wg_ty Sc_ok 10 6 10 (wg_ty Sc_ok 11 0 12 hx0 rfl (by decide)).2 rfl (by decide)).2 h (fun s3 h => ?_)
    refine wr_iconst (0 : Int32) (wg_da dt_X11_cite 8 rfl) (by decide) ?_
    exact wr_iret (wg_da dt_X11_cite 9 rfl) h
  · refine wr_aload_n (wg_da dt_X11_cite 10 rfl) rfl ?_
    refine wr_getR wf_X11_12 (wg_da dt_X11_cite 11 rfl) hx0 ?_
    refine wr_getR wf_X11_317 (wg_da dt_X11_cite 12 rfl) (wg_ty Sc_ok 11 0 12 hx0 rfl (by decide)).2 ?_
    refine wr_iload_n (wg_da dt_X11_cite 13 rfl) rfl ?_
    refine wr_iload_n (wg_da dt_X11_cite 14 rfl) rfl ?_
    refine wr_callVi [.int x1, .int x2] [] (wg_da dt_X11_cite 15 rfl) ⟨wq_6_6, wq_6_7, wq_6_8⟩ (wg_ty Sc_ok 10 6 10 (wg_ty Sc_ok 11 0 12 hx0 rfl (by decide)).2 rfl (by decide)).2 ⟨rfl, by decide⟩ wy_X8_addCite (fun q hq => m_X8_addCite l E (wg_r Sc (wg_r Sc x0 0) 6) x1 x2 (wg_ty Sc_ok 10 6 10 (wg_ty Sc_ok 11 0 12 hx0 rfl (by decide)).2 rfl (by decide)).2 _ q hq) rfl rfl (Nat.le_of_ble_eq_true rfl) ⟨rfl, rfl, by decide, by decide⟩ h (fun v1 s2 h => ?_)
    exact wr_iret (wg_da dt_X11_cite 16 rfl) h
theorem m_X11_cite (l : Launch) (E : wg_E) (x0 : Nat) (x1 : Int32) (x2 : Int32) (hx0 : wg_t Sc x0 = 13) (σ : wg_M) (q : Int32 × wg_M) (h : f_X11_cite x0 x1 x2 σ = some q) : wg_MG l E Sc yX11_cite cX11_cite 3 (some .int) rm_X11_cite [.ref x0, .int x1, .int x2] σ (some q.1) q.2 :=
  wg_met [.ref x0, .int x1, .int x2] (plainFor_of_name (by decide)) (Nat.le_of_ble_eq_true rfl) (g_X11_cite_e l E x0 x1 x2 σ q hx0 h)
abbrev rm_X11_chain : Room := { frames := 3, cells := 0, slots := 0, locals := 69 }
def tb_X11_chain : List (Nat × Instr × Nat) := [(0, .iload_n 1, 1), (1, .iconst 0, 1), (2, .iconst 1, 1), (3, .invokestatic 73, 3), (6, .ifCond .eq 26, 3), (9, .aload_n 0, 1), (10, .getfield 12, 3), (13, .getfield 317, 3), (16, .iload_n 1, 1), (17, .iconst 1, 1), (18, .if_icmp .ne 7, 3), (21, .iconst 1, 1), (22, .goto 4, 3), (25, .iconst 0, 1), (26, .invokevirtual 341, 3), (29, .goto 4, 3), (32, .iconst (-1), 1), (33, .ireturn, 1)]
theorem dt_X11_chain : wg_dc cX11_chain tb_X11_chain := by unfold wg_dc; decide +kernel
def f_X11_chain_26  (t0 : Int32) (t1 : Nat) (σ : wg_M) : Option (Int32 × wg_M) := wg_bd (f_X8_longestRow t1 t0 σ) (fun v1 s2 => some (v1, s2))
def f_X11_chain  (x0 : Nat) (x1 : Int32) (σ : wg_M) : Option (Int32 × wg_M) := wg_bd (f_X11_within x1 (0 : Int32) (1 : Int32) σ) (fun v1 s2 => if v1 = 0 then (some ((-1 : Int32), s2)) else (if x1 = (1 : Int32) then (f_X11_chain_26  (1 : Int32) (wg_r Sc (wg_r Sc x0 0) 6) s2) else (f_X11_chain_26  (0 : Int32) (wg_r Sc (wg_r Sc x0 0) 6) s2)))
set_option maxRecDepth 20000 in
theorem g_X11_chain_26 (l : Launch) (E : wg_E)  (t0 : Int32) (t1 : Nat) (σ : wg_M) (z : Int32 × wg_M) (ht1 : wg_t Sc t1 = 10) (h : f_X11_chain_26  t0 t1 σ = some z) : wg_G l E Sc "WornWigs" cX11_chain 2 (some .int) rm_X11_chain (some z.1) z.2 26 [none, none] [.int t0, .ref t1] σ := by
  refine wr_callVi [.int t0] [] (wg_da dt_X11_chain 14 rfl) ⟨wq_6_14, wq_6_15, wq_6_16⟩ ht1 ⟨rfl, by decide⟩ wy_X8_longestRow (fun q hq => m_X8_longestRow l E t1 t0 ht1 _ q hq) rfl rfl (Nat.le_of_ble_eq_true rfl) ⟨rfl, rfl, by decide, by decide⟩ h (fun v1 s2 h => ?_)
  refine wr_goto 33 (wg_da dt_X11_chain 15 rfl) (by decide) ?_
  exact wr_iret (wg_da dt_X11_chain 17 rfl) h
set_option maxRecDepth 20000 in
theorem g_X11_chain_e (l : Launch) (E : wg_E)  (x0 : Nat) (x1 : Int32) (σ : wg_M) (z : Int32 × wg_M) (hx0 : wg_t Sc x0 = 13) (h : f_X11_chain  x0 x1 σ = some z) : wg_G l E Sc "WornWigs" cX11_chain 2 (some .int) rm_X11_chain (some z.1) z.2 0 [some (.ref x0), some (.int x1)] [] σ := by
  refine wr_iload_n (wg_da dt_X11_chain 0 rfl) rfl ?_
  refine wr_iconst (0 : Int32) (wg_da dt_X11_chain 1 rfl) (by decide) ?_
  refine wr_iconst (1 : Int32) (wg_da dt_X11_chain 2 rfl) (by decide) ?_
  refine wr_callSi [.int x1, .int (0 : Int32), .int (1 : Int32)] [] (wg_da dt_X11_chain 3 rfl) ⟨wq_3_48, wq_3_49⟩ wy_X11_within (fun q hq => m_X11_within l E x1 (0 : Int32) (1 : Int32)  _ q hq) rfl rfl (Nat.le_of_ble_eq_true rfl) ⟨rfl, rfl, by decide, by decide⟩ h (fun v1 s2 h => ?_)
  refine wr_if_eq 32 (wg_da dt_X11_chain 4 rfl) (by decide) h (fun h => ?_) (fun h => ?_)
  · refine wr_iconst (-1 : Int32) (wg_da dt_X11_chain 16 rfl) (by decide) ?_
    exact wr_iret (wg_da dt_X11_chain 17 rfl) h
  · refine wr_aload_n (wg_da dt_X11_chain 5 rfl) rfl ?_
    refine wr_getR wf_X11_12 (wg_da dt_X11_chain 6 rfl) hx0 ?_
    refine wr_getR wf_X11_317 (wg_da dt_X11_chain 7 rfl) (wg_ty Sc_ok 11 0 12 hx0 rfl (by decide)).2 ?_
    refine wr_iload_n (wg_da dt_X11_chain 8 rfl) rfl ?_
    refine wr_iconst (1 : Int32) (wg_da dt_X11_chain 9 rfl) (by decide) ?_
    refine wr_icmp_ne 25 (wg_da dt_X11_chain 10 rfl) (by decide) h (fun h => ?_) (fun h => ?_)
    · refine wr_iconst (1 : Int32) (wg_da dt_X11_chain 11 rfl) (by decide) ?_
      refine wr_goto 26 (wg_da dt_X11_chain 12 rfl) (by decide) ?_
      exact wr_wk [false, false] (g_X11_chain_26 l E  (1 : Int32) (wg_r Sc (wg_r Sc x0 0) 6) s2 _ (wg_ty Sc_ok 10 6 10 (wg_ty Sc_ok 11 0 12 hx0 rfl (by decide)).2 rfl (by decide)).2  h)
    · refine wr_iconst (0 : Int32) (wg_da dt_X11_chain 13 rfl) (by decide) ?_
      exact wr_wk [false, false] (g_X11_chain_26 l E  (0 : Int32) (wg_r Sc (wg_r Sc x0 0) 6) s2 _ (wg_ty Sc_ok 10 6 10 (wg_ty Sc_ok 11 0 12 hx0 rfl (by decide)).2 rfl (by decide)).2  h)
theorem m_X11_chain (l : Launch) (E : wg_E) (x0 : Nat) (x1 : Int32) (hx0 : wg_t Sc x0 = 13) (σ : wg_M) (q : Int32 × wg_M) (h : f_X11_chain x0 x1 σ = some q) : wg_MG l E Sc yX11_chain cX11_chain 2 (some .int) rm_X11_chain [.ref x0, .int x1] σ (some q.1) q.2 :=
  wg_met [.ref x0, .int x1] (plainFor_of_name (by decide)) (Nat.le_of_ble_eq_true rfl) (g_X11_chain_e l E x0 x1 σ q hx0 h)
abbrev rm_X11_parcel : Room := { frames := 1, cells := 0, slots := 0, locals := 22 }
def tb_X11_parcel : List (Nat × Instr × Nat) := [(0, .iload_n 1, 1), (1, .iconst 0, 1), (2, .bipush 9, 2), (4, .invokestatic 73, 3), (7, .ifCond .eq 22, 3), (10, .iload_n 2, 1), (11, .iconst 0, 1), (12, .iconst 1, 1), (13, .invokestatic 73, 3), (16, .ifCond .eq 13, 3), (19, .iload_n 3, 1), (20, .iconst 0, 1), (21, .bipush 99, 2), (23, .invokestatic 73, 3), (26, .ifCond .ne 5, 3), (29, .iconst 0, 1), (30, .ireturn, 1), (31, .aload_n 0, 1), (32, .getfield 12, 3), (35, .getfield 317, 3), (38, .getfield 345, 3), (41, .iload_n 2, 1), (42, .bipush 10, 2), (44, .imul, 1), (45, .iload_n 1, 1), (46, .iadd, 1), (47, .iload_n 3, 1), (48, .iastore, 1), (49, .iconst 1, 1), (50, .ireturn, 1)]
theorem dt_X11_parcel : wg_dc cX11_parcel tb_X11_parcel := by unfold wg_dc; decide +kernel
def f_X11_parcel  (x0 : Nat) (x1 : Int32) (x2 : Int32) (x3 : Int32) (σ : wg_M) : Option (Int32 × wg_M) := wg_bd (f_X11_within x1 (0 : Int32) (9 : Int32) σ) (fun v1 s2 => if v1 = 0 then (some ((0 : Int32), s2)) else (wg_bd (f_X11_within x2 (0 : Int32) (1 : Int32) s2) (fun v3 s4 => if v3 = 0 then (some ((0 : Int32), s4)) else (wg_bd (f_X11_within x3 (0 : Int32) (99 : Int32) s4) (fun v5 s6 => if v5 = 0 then (some ((0 : Int32), s6)) else (wg_sa (wg_n Sc (wg_r Sc (wg_r Sc (wg_r Sc x0 0) 6) 7)) s6 (wg_r Sc (wg_r Sc (wg_r Sc x0 0) 6) 7) ((x2 * (10 : Int32)) + x1) x3 (fun s7 => some ((1 : Int32), s7))))))))
set_option maxRecDepth 20000 in
theorem g_X11_parcel_e (l : Launch) (E : wg_E)  (x0 : Nat) (x1 : Int32) (x2 : Int32) (x3 : Int32) (σ : wg_M) (z : Int32 × wg_M) (hx0 : wg_t Sc x0 = 13) (h : f_X11_parcel  x0 x1 x2 x3 σ = some z) : wg_G l E Sc "WornWigs" cX11_parcel 4 (some .boolean) rm_X11_parcel (some z.1) z.2 0 [some (.ref x0), some (.int x1), some (.int x2), some (.int x3)] [] σ := by
  refine wr_iload_n (wg_da dt_X11_parcel 0 rfl) rfl ?_
  refine wr_iconst (0 : Int32) (wg_da dt_X11_parcel 1 rfl) (by decide) ?_
  refine wr_bipush (9 : Int32) (wg_da dt_X11_parcel 2 rfl) (by decide) ?_
  refine wr_callSi [.int x1, .int (0 : Int32), .int (9 : Int32)] [] (wg_da dt_X11_parcel 3 rfl) ⟨wq_3_48, wq_3_49⟩ wy_X11_within (fun q hq => m_X11_within l E x1 (0 : Int32) (9 : Int32)  _ q hq) rfl rfl (Nat.le_of_ble_eq_true rfl) ⟨rfl, rfl, by decide, by decide⟩ h (fun v1 s2 h => ?_)
  refine wr_if_eq 29 (wg_da dt_X11_parcel 4 rfl) (by decide) h (fun h => ?_) (fun h => ?_)
  · refine wr_iconst (0 : Int32) (wg_da dt_X11_parcel 15 rfl) (by decide) ?_
    exact wr_zret0 (wg_da dt_X11_parcel 16 rfl) h
  · refine wr_iload_n (wg_da dt_X11_parcel 5 rfl) rfl ?_
    refine wr_iconst (0 : Int32) (wg_da dt_X11_parcel 6 rfl) (by decide) ?_
    refine wr_iconst (1 : Int32) (wg_da dt_X11_parcel 7 rfl) (by decide) ?_
    refine wr_callSi [.int x2, .int (0 : Int32), .int (1 : Int32)] [] (wg_da dt_X11_parcel 8 rfl) ⟨wq_3_48, wq_3_49⟩ wy_X11_within (fun q hq => m_X11_within l E x2 (0 : Int32) (1 : Int32)  _ q hq) rfl rfl (Nat.le_of_ble_eq_true rfl) ⟨rfl, rfl, by decide, by decide⟩ h (fun v3 s4 h => ?_)
    refine wr_if_eq 29 (wg_da dt_X11_parcel 9 rfl) (by decide) h (fun h => ?_) (fun h => ?_)
    · refine wr_iconst (0 : Int32) (wg_da dt_X11_parcel 15 rfl) (by decide) ?_
      exact wr_zret0 (wg_da dt_X11_parcel 16 rfl) h
    · refine wr_iload_n (wg_da dt_X11_parcel 10 rfl) rfl ?_
      refine wr_iconst (0 : Int32) (wg_da dt_X11_parcel 11 rfl) (by decide) ?_
      refine wr_bipush (99 : Int32) (wg_da dt_X11_parcel 12 rfl) (by decide) ?_
      refine wr_callSi [.int x3, .int (0 : Int32), .int (99 : Int32)] [] (wg_da dt_X11_parcel 13 rfl) ⟨wq_3_48, wq_3_49⟩ wy_X11_within (fun q hq => m_X11_within l E x3 (0 : Int32) (99 : Int32)  _ q hq) rfl rfl (Nat.le_of_ble_eq_true rfl) ⟨rfl, rfl, by decide, by decide⟩ h (fun v5 s6 h => ?_)
      refine wr_if_ne 31 (wg_da dt_X11_parcel 14 rfl) (by decide) h (fun h => ?_) (fun h => ?_)
      · refine wr_iconst (0 : Int32) (wg_da dt_X11_parcel 15 rfl) (by decide) ?_
        exact wr_zret0 (wg_da dt_X11_parcel 16 rfl) h
      · refine wr_aload_n (wg_da dt_X11_parcel 17 rfl) rfl ?_
        refine wr_getR wf_X11_12 (wg_da dt_X11_parcel 18 rfl) hx0 ?_
        refine wr_getR wf_X11_317 (wg_da dt_X11_parcel 19 rfl) (wg_ty Sc_ok 11 0 12 hx0 rfl (by decide)).2 ?_
        refine wr_getR wf_X11_345 (wg_da dt_X11_parcel 20 rfl) (wg_ty Sc_ok 10 6 10 (wg_ty Sc_ok 11 0 12 hx0 rfl (by decide)).2 rfl (by decide)).2 ?_
        refine wr_iload_n (wg_da dt_X11_parcel 21 rfl) rfl ?_
        refine wr_bipush (10 : Int32) (wg_da dt_X11_parcel 22 rfl) (by decide) ?_
        refine wr_imul (wg_da dt_X11_parcel 23 rfl) ?_
        refine wr_iload_n (wg_da dt_X11_parcel 24 rfl) rfl ?_
        refine wr_iadd (wg_da dt_X11_parcel 25 rfl) ?_
        refine wr_iload_n (wg_da dt_X11_parcel 26 rfl) rfl ?_
        refine wr_iast (wg_da dt_X11_parcel 27 rfl) (wg_ty Sc_ok 8 7 0 (wg_ty Sc_ok 10 6 10 (wg_ty Sc_ok 11 0 12 hx0 rfl (by decide)).2 rfl (by decide)).2 rfl (by decide)).2 h (fun s7 h => ?_)
        refine wr_iconst (1 : Int32) (wg_da dt_X11_parcel 28 rfl) (by decide) ?_
        exact wr_zret1 (wg_da dt_X11_parcel 29 rfl) h
theorem m_X11_parcel (l : Launch) (E : wg_E) (x0 : Nat) (x1 : Int32) (x2 : Int32) (x3 : Int32) (hx0 : wg_t Sc x0 = 13) (σ : wg_M) (q : Int32 × wg_M) (h : f_X11_parcel x0 x1 x2 x3 σ = some q) : wg_MG l E Sc yX11_parcel cX11_parcel 4 (some .boolean) rm_X11_parcel [.ref x0, .int x1, .int x2, .int x3] σ (some q.1) q.2 :=
  wg_met [.ref x0, .int x1, .int x2, .int x3] (plainFor_of_name (by decide)) (Nat.le_of_ble_eq_true rfl) (g_X11_parcel_e l E x0 x1 x2 x3 σ q hx0 h)
abbrev rm_X11_cut : Room := { frames := 3, cells := 0, slots := 0, locals := 71 }
def tb_X11_cut : List (Nat × Instr × Nat) := [(0, .iload_n 1, 1), (1, .tableswitch 60 0 2 #[27, 38, 49], 27), (28, .aload_n 0, 1), (29, .getfield 12, 3), (32, .getfield 317, 3), (35, .invokevirtual 348, 3), (38, .ireturn, 1), (39, .aload_n 0, 1), (40, .getfield 12, 3), (43, .getfield 317, 3), (46, .invokevirtual 351, 3), (49, .ireturn, 1), (50, .aload_n 0, 1), (51, .getfield 12, 3), (54, .getfield 317, 3), (57, .invokevirtual 354, 3), (60, .ireturn, 1), (61, .iconst (-1), 1), (62, .ireturn, 1)]
theorem dt_X11_cut : wg_dc cX11_cut tb_X11_cut := by unfold wg_dc; decide +kernel
def f_X11_cut  (x0 : Nat) (x1 : Int32) (σ : wg_M) : Option (Int32 × wg_M) := wg_sw x1 (0) [wg_bd (f_X8_cutPlace (wg_r Sc (wg_r Sc x0 0) 6) σ) (fun v1 s2 => some (v1, s2)), wg_bd (f_X8_otherHas (wg_r Sc (wg_r Sc x0 0) 6) σ) (fun v3 s4 => some (v3, s4)), wg_bd (f_X8_oneHas (wg_r Sc (wg_r Sc x0 0) 6) σ) (fun v5 s6 => some (v5, s6))] (some ((-1 : Int32), σ))
set_option maxRecDepth 20000 in
theorem g_X11_cut_e (l : Launch) (E : wg_E)  (x0 : Nat) (x1 : Int32) (σ : wg_M) (z : Int32 × wg_M) (hx0 : wg_t Sc x0 = 13) (h : f_X11_cut  x0 x1 σ = some z) : wg_G l E Sc "WornWigs" cX11_cut 2 (some .int) rm_X11_cut (some z.1) z.2 0 [some (.ref x0), some (.int x1)] [] σ := by
  refine wr_iload_n (wg_da dt_X11_cut 0 rfl) rfl ?_
  refine wr_tsw [28, 39, 50] 61 (wg_da dt_X11_cut 1 rfl) rfl rfl (by decide) (by decide) h (wg_all_c (fun h => ?_) (wg_all_c (fun h => ?_) (wg_all_c (fun h => ?_) (wg_all_n)))) (fun h => ?_)
  · refine wr_aload_n (wg_da dt_X11_cut 2 rfl) rfl ?_
    refine wr_getR wf_X11_12 (wg_da dt_X11_cut 3 rfl) hx0 ?_
    refine wr_getR wf_X11_317 (wg_da dt_X11_cut 4 rfl) (wg_ty Sc_ok 11 0 12 hx0 rfl (by decide)).2 ?_
    refine wr_callVi [] [] (wg_da dt_X11_cut 5 rfl) ⟨wq_6_31, wq_6_32, wq_6_33⟩ (wg_ty Sc_ok 10 6 10 (wg_ty Sc_ok 11 0 12 hx0 rfl (by decide)).2 rfl (by decide)).2 ⟨rfl, by decide⟩ wy_X8_cutPlace (fun q hq => m_X8_cutPlace l E (wg_r Sc (wg_r Sc x0 0) 6) (wg_ty Sc_ok 10 6 10 (wg_ty Sc_ok 11 0 12 hx0 rfl (by decide)).2 rfl (by decide)).2 _ q hq) rfl rfl (Nat.le_of_ble_eq_true rfl) ⟨rfl, rfl, by decide, by decide⟩ h (fun v1 s2 h => ?_)
    exact wr_iret (wg_da dt_X11_cut 6 rfl) h
  · refine wr_aload_n (wg_da dt_X11_cut 7 rfl) rfl ?_
    refine wr_getR wf_X11_12 (wg_da dt_X11_cut 8 rfl) hx0 ?_
    refine wr_getR wf_X11_317 (wg_da dt_X11_cut 9 rfl) (wg_ty Sc_ok 11 0 12 hx0 rfl (by decide)).2 ?_
    refine wr_callVi [] [] (wg_da dt_X11_cut 10 rfl) ⟨wq_6_40, wq_6_41, wq_6_42⟩ (wg_ty Sc_ok 10 6 10 (wg_ty Sc_ok 11 0 12 hx0 rfl (by decide)).2 rfl (by decide)).2 ⟨rfl, by decide⟩ wy_X8_otherHas (fun q hq => m_X8_otherHas l E (wg_r Sc (wg_r Sc x0 0) 6) (wg_ty Sc_ok 10 6 10 (wg_ty Sc_ok 11 0 12 hx0 rfl (by decide)).2 rfl (by decide)).2 _ q hq) rfl rfl (Nat.le_of_ble_eq_true rfl) ⟨rfl, rfl, by decide, by decide⟩ h (fun v3 s4 h => ?_)
    exact wr_iret (wg_da dt_X11_cut 11 rfl) h
  · refine wr_aload_n (wg_da dt_X11_cut 12 rfl) rfl ?_
    refine wr_getR wf_X11_12 (wg_da dt_X11_cut 13 rfl) hx0 ?_
    refine wr_getR wf_X11_317 (wg_da dt_X11_cut 14 rfl) (wg_ty Sc_ok 11 0 12 hx0 rfl (by decide)).2 ?_
    refine wr_callVi [] [] (wg_da dt_X11_cut 15 rfl) ⟨wq_6_46, wq_6_47, wq_6_48⟩ (wg_ty Sc_ok 10 6 10 (wg_ty Sc_ok 11 0 12 hx0 rfl (by decide)).2 rfl (by decide)).2 ⟨rfl, by decide⟩ wy_X8_oneHas (fun q hq => m_X8_oneHas l E (wg_r Sc (wg_r Sc x0 0) 6) (wg_ty Sc_ok 10 6 10 (wg_ty Sc_ok 11 0 12 hx0 rfl (by decide)).2 rfl (by decide)).2 _ q hq) rfl rfl (Nat.le_of_ble_eq_true rfl) ⟨rfl, rfl, by decide, by decide⟩ h (fun v5 s6 h => ?_)
    exact wr_iret (wg_da dt_X11_cut 16 rfl) h
  · refine wr_iconst (-1 : Int32) (wg_da dt_X11_cut 17 rfl) (by decide) ?_
    exact wr_iret (wg_da dt_X11_cut 18 rfl) h
theorem m_X11_cut (l : Launch) (E : wg_E) (x0 : Nat) (x1 : Int32) (hx0 : wg_t Sc x0 = 13) (σ : wg_M) (q : Int32 × wg_M) (h : f_X11_cut x0 x1 σ = some q) : wg_MG l E Sc yX11_cut cX11_cut 2 (some .int) rm_X11_cut [.ref x0, .int x1] σ (some q.1) q.2 :=
  wg_met [.ref x0, .int x1] (plainFor_of_name (by decide)) (Nat.le_of_ble_eq_true rfl) (g_X11_cut_e l E x0 x1 σ q hx0 h)
abbrev rm_X11_hard : Room := { frames := 2, cells := 0, slots := 0, locals := 44 }
def tb_X11_hard : List (Nat × Instr × Nat) := [(0, .iload_n 1, 1), (1, .iconst (-1), 1), (2, .if_icmp .ne 16, 3), (5, .aload_n 0, 1), (6, .getfield 12, 3), (9, .getfield 317, 3), (12, .iconst 0, 1), (13, .putfield 357, 3), (16, .iconst 0, 1), (17, .ireturn, 1), (18, .aload_n 0, 1), (19, .getfield 12, 3), (22, .getfield 317, 3), (25, .iload_n 1, 1), (26, .iload_n 2, 1), (27, .invokevirtual 360, 3), (30, .ireturn, 1)]
theorem dt_X11_hard : wg_dc cX11_hard tb_X11_hard := by unfold wg_dc; decide +kernel
def f_X11_hard  (x0 : Nat) (x1 : Int32) (x2 : Int32) (σ : wg_M) : Option (Int32 × wg_M) := if x1 = (-1 : Int32) then (wg_st σ (wg_r Sc (wg_r Sc x0 0) 6) 10 (0 : Int32) (fun s3 => some ((0 : Int32), s3))) else (wg_bd (f_X8_addHard (wg_r Sc (wg_r Sc x0 0) 6) x1 x2 σ) (fun v1 s2 => some (v1, s2)))
set_option maxRecDepth 20000 in
theorem g_X11_hard_e (l : Launch) (E : wg_E)  (x0 : Nat) (x1 : Int32) (x2 : Int32) (σ : wg_M) (z : Int32 × wg_M) (hx0 : wg_t Sc x0 = 13) (h : f_X11_hard  x0 x1 x2 σ = some z) : wg_G l E Sc "WornWigs" cX11_hard 3 (some .int) rm_X11_hard (some z.1) z.2 0 [some (.ref x0), some (.int x1), some (.int x2)] [] σ := by
  refine wr_iload_n (wg_da dt_X11_hard 0 rfl) rfl ?_
  refine wr_iconst (-1 : Int32) (wg_da dt_X11_hard 1 rfl) (by decide) ?_
  refine wr_icmp_ne 18 (wg_da dt_X11_hard 2 rfl) (by decide) h (fun h => ?_) (fun h => ?_)
  · refine wr_aload_n (wg_da dt_X11_hard 3 rfl) rfl ?_
    refine wr_getR wf_X11_12 (wg_da dt_X11_hard 4 rfl) hx0 ?_
    refine wr_getR wf_X11_317 (wg_da dt_X11_hard 5 rfl) (wg_ty Sc_ok 11 0 12 hx0 rfl (by decide)).2 ?_
    refine wr_iconst (0 : Int32) (wg_da dt_X11_hard 6 rfl) (by decide) ?_
    refine wr_putI wfp_X11_357 (wg_da dt_X11_hard 7 rfl) (wg_ty Sc_ok 10 6 10 (wg_ty Sc_ok 11 0 12 hx0 rfl (by decide)).2 rfl (by decide)).2 h (fun s3 h => ?_)
    refine wr_iconst (0 : Int32) (wg_da dt_X11_hard 8 rfl) (by decide) ?_
    exact wr_iret (wg_da dt_X11_hard 9 rfl) h
  · refine wr_aload_n (wg_da dt_X11_hard 10 rfl) rfl ?_
    refine wr_getR wf_X11_12 (wg_da dt_X11_hard 11 rfl) hx0 ?_
    refine wr_getR wf_X11_317 (wg_da dt_X11_hard 12 rfl) (wg_ty Sc_ok 11 0 12 hx0 rfl (by decide)).2 ?_
    refine wr_iload_n (wg_da dt_X11_hard 13 rfl) rfl ?_
    refine wr_iload_n (wg_da dt_X11_hard 14 rfl) rfl ?_
    refine wr_callVi [.int x1, .int x2] [] (wg_da dt_X11_hard 15 rfl) ⟨wq_6_54, wq_6_55, wq_6_56⟩ (wg_ty Sc_ok 10 6 10 (wg_ty Sc_ok 11 0 12 hx0 rfl (by decide)).2 rfl (by decide)).2 ⟨rfl, by decide⟩ wy_X8_addHard (fun q hq => m_X8_addHard l E (wg_r Sc (wg_r Sc x0 0) 6) x1 x2 (wg_ty Sc_ok 10 6 10 (wg_ty Sc_ok 11 0 12 hx0 rfl (by decide)).2 rfl (by decide)).2 _ q hq) rfl rfl (Nat.le_of_ble_eq_true rfl) ⟨rfl, rfl, by decide, by decide⟩ h (fun v1 s2 h => ?_)
    exact wr_iret (wg_da dt_X11_hard 16 rfl) h
theorem m_X11_hard (l : Launch) (E : wg_E) (x0 : Nat) (x1 : Int32) (x2 : Int32) (hx0 : wg_t Sc x0 = 13) (σ : wg_M) (q : Int32 × wg_M) (h : f_X11_hard x0 x1 x2 σ = some q) : wg_MG l E Sc yX11_hard cX11_hard 3 (some .int) rm_X11_hard [.ref x0, .int x1, .int x2] σ (some q.1) q.2 :=
  wg_met [.ref x0, .int x1, .int x2] (plainFor_of_name (by decide)) (Nat.le_of_ble_eq_true rfl) (g_X11_hard_e l E x0 x1 x2 σ q hx0 h)
abbrev rm_X11_hears : Room := { frames := 4, cells := 0, slots := 0, locals := 102 }
def tb_X11_hears : List (Nat × Instr × Nat) := [(0, .iload_n 1, 1), (1, .ifCond .ne 16, 3), (4, .aload_n 0, 1), (5, .getfield 12, 3), (8, .getfield 317, 3), (11, .iconst 0, 1), (12, .iconst 0, 1), (13, .invokevirtual 363, 3), (16, .ireturn, 1), (17, .iload_n 1, 1), (18, .bipush 10, 2), (20, .if_icmp .lt 20, 3), (23, .iload_n 1, 1), (24, .bipush 10, 2), (26, .isub, 1), (27, .aload_n 0, 1), (28, .getfield 12, 3), (31, .getfield 317, 3), (34, .getfield 357, 3), (37, .if_icmp .lt 5, 3), (40, .iconst (-1), 1), (41, .ireturn, 1), (42, .aload_n 0, 1), (43, .getfield 12, 3), (46, .getfield 317, 3), (49, .iload_n 1, 1), (50, .bipush 10, 2), (52, .isub, 1), (53, .invokevirtual 366, 3), (56, .ireturn, 1)]
theorem dt_X11_hears : wg_dc cX11_hears tb_X11_hears := by unfold wg_dc; decide +kernel
def f_X11_hears  (x0 : Nat) (x1 : Int32) (σ : wg_M) : Option (Int32 × wg_M) := if x1 = 0 then (wg_bd (f_X8_lateness (wg_r Sc (wg_r Sc x0 0) 6) (0 : Int32) (0 : Int32) σ) (fun v3 s4 => some (v3, s4))) else (if x1 < (10 : Int32) then (some ((-1 : Int32), σ)) else (if (x1 - (10 : Int32)) < (σ (wg_r Sc (wg_r Sc x0 0) 6) 10) then (wg_bd (f_X8_heardAt (wg_r Sc (wg_r Sc x0 0) 6) (x1 - (10 : Int32)) σ) (fun v1 s2 => some (v1, s2))) else (some ((-1 : Int32), σ))))
set_option maxRecDepth 20000 in
theorem g_X11_hears_e (l : Launch) (E : wg_E)  (x0 : Nat) (x1 : Int32) (σ : wg_M) (z : Int32 × wg_M) (hx0 : wg_t Sc x0 = 13) (h : f_X11_hears  x0 x1 σ = some z) : wg_G l E Sc "WornWigs" cX11_hears 2 (some .int) rm_X11_hears (some z.1) z.2 0 [some (.ref x0), some (.int x1)] [] σ := by
  refine wr_iload_n (wg_da dt_X11_hears 0 rfl) rfl ?_
  refine wr_if_ne 17 (wg_da dt_X11_hears 1 rfl) (by decide) h (fun h => ?_) (fun h => ?_)
  · refine wr_aload_n (wg_da dt_X11_hears 2 rfl) rfl ?_
    refine wr_getR wf_X11_12 (wg_da dt_X11_hears 3 rfl) hx0 ?_
    refine wr_getR wf_X11_317 (wg_da dt_X11_hears 4 rfl) (wg_ty Sc_ok 11 0 12 hx0 rfl (by decide)).2 ?_
    refine wr_iconst (0 : Int32) (wg_da dt_X11_hears 5 rfl) (by decide) ?_
    refine wr_iconst (0 : Int32) (wg_da dt_X11_hears 6 rfl) (by decide) ?_
    refine wr_callVi [.int (0 : Int32), .int (0 : Int32)] [] (wg_da dt_X11_hears 7 rfl) ⟨wq_6_62, wq_6_63, wq_6_64⟩ (wg_ty Sc_ok 10 6 10 (wg_ty Sc_ok 11 0 12 hx0 rfl (by decide)).2 rfl (by decide)).2 ⟨rfl, by decide⟩ wy_X8_lateness (fun q hq => m_X8_lateness l E (wg_r Sc (wg_r Sc x0 0) 6) (0 : Int32) (0 : Int32) (wg_ty Sc_ok 10 6 10 (wg_ty Sc_ok 11 0 12 hx0 rfl (by decide)).2 rfl (by decide)).2 _ q hq) rfl rfl (Nat.le_of_ble_eq_true rfl) ⟨rfl, rfl, by decide, by decide⟩ h (fun v3 s4 h => ?_)
    exact wr_iret (wg_da dt_X11_hears 8 rfl) h
  · refine wr_iload_n (wg_da dt_X11_hears 9 rfl) rfl ?_
    refine wr_bipush (10 : Int32) (wg_da dt_X11_hears 10 rfl) (by decide) ?_
    refine wr_icmp_lt 40 (wg_da dt_X11_hears 11 rfl) (by decide) h (fun h => ?_) (fun h => ?_)
    · refine wr_iconst (-1 : Int32) (wg_da dt_X11_hears 20 rfl) (by decide) ?_
      exact wr_iret (wg_da dt_X11_hears 21 rfl) h
    · refine wr_iload_n (wg_da dt_X11_hears 12 rfl) rfl ?_
      refine wr_bipush (10 : Int32) (wg_da dt_X11_hears 13 rfl) (by decide) ?_
      refine wr_isub (wg_da dt_X11_hears 14 rfl) ?_
      refine wr_aload_n (wg_da dt_X11_hears 15 rfl) rfl ?_
      refine wr_getR wf_X11_12 (wg_da dt_X11_hears 16 rfl) hx0 ?_
      refine wr_getR wf_X11_317 (wg_da dt_X11_hears 17 rfl) (wg_ty Sc_ok 11 0 12 hx0 rfl (by decide)).2 ?_
      refine wr_getI wf_X11_357 (wg_da dt_X11_hears 18 rfl) (wg_ty Sc_ok 10 6 10 (wg_ty Sc_ok 11 0 12 hx0 rfl (by decide)).2 rfl (by decide)).2 ?_
      refine wr_icmp_lt 42 (wg_da dt_X11_hears 19 rfl) (by decide) h (fun h => ?_) (fun h => ?_)
      · refine wr_aload_n (wg_da dt_X11_hears 22 rfl) rfl ?_
        refine wr_getR wf_X11_12 (wg_da dt_X11_hears 23 rfl) hx0 ?_
        refine wr_getR wf_X11_317 (wg_da dt_X11_hears 24 rfl) (wg_ty Sc_ok 11 0 12 hx0 rfl (by decide)).2 ?_
        refine wr_iload_n (wg_da dt_X11_hears 25 rfl) rfl ?_
        refine wr_bipush (10 : Int32) (wg_da dt_X11_hears 26 rfl) (by decide) ?_
        refine wr_isub (wg_da dt_X11_hears 27 rfl) ?_
        refine wr_callVi [.int (x1 - (10 : Int32))] [] (wg_da dt_X11_hears 28 rfl) ⟨wq_6_70, wq_6_71, wq_6_72⟩ (wg_ty Sc_ok 10 6 10 (wg_ty Sc_ok 11 0 12 hx0 rfl (by decide)).2 rfl (by decide)).2 ⟨rfl, by decide⟩ wy_X8_heardAt (fun q hq => m_X8_heardAt l E (wg_r Sc (wg_r Sc x0 0) 6) (x1 - (10 : Int32)) (wg_ty Sc_ok 10 6 10 (wg_ty Sc_ok 11 0 12 hx0 rfl (by decide)).2 rfl (by decide)).2 _ q hq) rfl rfl (Nat.le_of_ble_eq_true rfl) ⟨rfl, rfl, by decide, by decide⟩ h (fun v1 s2 h => ?_)
        exact wr_iret (wg_da dt_X11_hears 29 rfl) h
      · refine wr_iconst (-1 : Int32) (wg_da dt_X11_hears 20 rfl) (by decide) ?_
        exact wr_iret (wg_da dt_X11_hears 21 rfl) h
theorem m_X11_hears (l : Launch) (E : wg_E) (x0 : Nat) (x1 : Int32) (hx0 : wg_t Sc x0 = 13) (σ : wg_M) (q : Int32 × wg_M) (h : f_X11_hears x0 x1 σ = some q) : wg_MG l E Sc yX11_hears cX11_hears 2 (some .int) rm_X11_hears [.ref x0, .int x1] σ (some q.1) q.2 :=
  wg_met [.ref x0, .int x1] (plainFor_of_name (by decide)) (Nat.le_of_ble_eq_true rfl) (g_X11_hears_e l E x0 x1 σ q hx0 h)
abbrev rm_X11_game : Room := { frames := 1, cells := 0, slots := 0, locals := 24 }
def tb_X11_game : List (Nat × Instr × Nat) := [(0, .iload_n 1, 1), (1, .iconst 0, 1), (2, .iconst 1, 1), (3, .invokestatic 73, 3), (6, .ifCond .ne 5, 3), (9, .iconst (-1), 1), (10, .ireturn, 1), (11, .aload_n 0, 1), (12, .getfield 12, 3), (15, .getfield 51, 3), (18, .getfield 64, 3), (21, .iload_n 1, 1), (22, .ifCond .ne 7, 3), (25, .iconst 1, 1), (26, .goto 4, 3), (29, .iconst 0, 1), (30, .invokevirtual 369, 3), (33, .ireturn, 1)]
theorem dt_X11_game : wg_dc cX11_game tb_X11_game := by unfold wg_dc; decide +kernel
def f_X11_game_30  (t0 : Int32) (t1 : Nat) (σ : wg_M) : Option (Int32 × wg_M) := wg_bd (f_X9_wellPulled t1 t0 σ) (fun v1 s2 => some (v1, s2))
def f_X11_game  (x0 : Nat) (x1 : Int32) (σ : wg_M) : Option (Int32 × wg_M) := wg_bd (f_X11_within x1 (0 : Int32) (1 : Int32) σ) (fun v1 s2 => if v1 = 0 then (some ((-1 : Int32), s2)) else (if x1 = 0 then (f_X11_game_30  (1 : Int32) (wg_r Sc (wg_r Sc (wg_r Sc x0 0) 0) 0) s2) else (f_X11_game_30  (0 : Int32) (wg_r Sc (wg_r Sc (wg_r Sc x0 0) 0) 0) s2)))
set_option maxRecDepth 20000 in
theorem g_X11_game_30 (l : Launch) (E : wg_E)  (t0 : Int32) (t1 : Nat) (σ : wg_M) (z : Int32 × wg_M) (ht1 : wg_t Sc t1 = 11) (h : f_X11_game_30  t0 t1 σ = some z) : wg_G l E Sc "WornWigs" cX11_game 2 (some .int) rm_X11_game (some z.1) z.2 30 [none, none] [.int t0, .ref t1] σ := by
  refine wr_callVi [.int t0] [] (wg_da dt_X11_game 16 rfl) ⟨wq_6_83, wq_6_84, wq_6_85⟩ ht1 ⟨rfl, by decide⟩ wy_X9_wellPulled (fun q hq => m_X9_wellPulled l E t1 t0 ht1 _ q hq) rfl rfl (Nat.le_of_ble_eq_true rfl) ⟨rfl, rfl, by decide, by decide⟩ h (fun v1 s2 h => ?_)
  exact wr_iret (wg_da dt_X11_game 17 rfl) h
set_option maxRecDepth 20000 in
theorem g_X11_game_e (l : Launch) (E : wg_E)  (x0 : Nat) (x1 : Int32) (σ : wg_M) (z : Int32 × wg_M) (hx0 : wg_t Sc x0 = 13) (h : f_X11_game  x0 x1 σ = some z) : wg_G l E Sc "WornWigs" cX11_game 2 (some .int) rm_X11_game (some z.1) z.2 0 [some (.ref x0), some (.int x1)] [] σ := by
  refine wr_iload_n (wg_da dt_X11_game 0 rfl) rfl ?_
  refine wr_iconst (0 : Int32) (wg_da dt_X11_game 1 rfl) (by decide) ?_
  refine wr_iconst (1 : Int32) (wg_da dt_X11_game 2 rfl) (by decide) ?_
  refine wr_callSi [.int x1, .int (0 : Int32), .int (1 : Int32)] [] (wg_da dt_X11_game 3 rfl) ⟨wq_3_48, wq_3_49⟩ wy_X11_within (fun q hq => m_X11_within l E x1 (0 : Int32) (1 : Int32)  _ q hq) rfl rfl (Nat.le_of_ble_eq_true rfl) ⟨rfl, rfl, by decide, by decide⟩ h (fun v1 s2 h => ?_)
  refine wr_if_ne 11 (wg_da dt_X11_game 4 rfl) (by decide) h (fun h => ?_) (fun h => ?_)
  · refine wr_iconst (-1 : Int32) (wg_da dt_X11_game 5 rfl) (by decide) ?_
    exact wr_iret (wg_da dt_X11_game 6 rfl) h
  · refine wr_aload_n (wg_da dt_X11_game 7 rfl) rfl ?_
    refine wr_getR wf_X11_12 (wg_da dt_X11_game 8 rfl) hx0 ?_
    refine wr_getR wf_X11_51 (wg_da dt_X11_game 9 rfl) (wg_ty Sc_ok 11 0 12 hx0 rfl (by decide)).2 ?_
    refine wr_getR wf_X11_64 (wg_da dt_X11_game 10 rfl) (wg_ty Sc_ok 10 0 2 (wg_ty Sc_ok 11 0 12 hx0 rfl (by decide)).2 rfl (by decide)).2 ?_
    refine wr_iload_n (wg_da dt_X11_game 11 rfl) rfl ?_
    refine wr_if_ne 29 (wg_da dt_X11_game 12 rfl) (by decide) h (fun h => ?_) (fun h => ?_)
    · refine wr_iconst (1 : Int32) (wg_da dt_X11_game 13 rfl) (by decide) ?_
      refine wr_goto 30 (wg_da dt_X11_game 14 rfl) (by decide) ?_
      exact wr_wk [false, false] (g_X11_game_30 l E  (1 : Int32) (wg_r Sc (wg_r Sc (wg_r Sc x0 0) 0) 0) s2 _ (wg_ty Sc_ok 0 0 11 (wg_ty Sc_ok 10 0 2 (wg_ty Sc_ok 11 0 12 hx0 rfl (by decide)).2 rfl (by decide)).2 rfl (by decide)).2  h)
    · refine wr_iconst (0 : Int32) (wg_da dt_X11_game 15 rfl) (by decide) ?_
      exact wr_wk [false, false] (g_X11_game_30 l E  (0 : Int32) (wg_r Sc (wg_r Sc (wg_r Sc x0 0) 0) 0) s2 _ (wg_ty Sc_ok 0 0 11 (wg_ty Sc_ok 10 0 2 (wg_ty Sc_ok 11 0 12 hx0 rfl (by decide)).2 rfl (by decide)).2 rfl (by decide)).2  h)
theorem m_X11_game (l : Launch) (E : wg_E) (x0 : Nat) (x1 : Int32) (hx0 : wg_t Sc x0 = 13) (σ : wg_M) (q : Int32 × wg_M) (h : f_X11_game x0 x1 σ = some q) : wg_MG l E Sc yX11_game cX11_game 2 (some .int) rm_X11_game [.ref x0, .int x1] σ (some q.1) q.2 :=
  wg_met [.ref x0, .int x1] (plainFor_of_name (by decide)) (Nat.le_of_ble_eq_true rfl) (g_X11_game_e l E x0 x1 σ q hx0 h)
abbrev rm_X11_undo : Room := { frames := 5, cells := 0, slots := 0, locals := 124 }
def tb_X11_undo : List (Nat × Instr × Nat) := [(0, .aload_n 0, 1), (1, .getfield 22, 3), (4, .aload_n 0, 1), (5, .getfield 12, 3), (8, .getfield 51, 3), (11, .invokevirtual 372, 3), (14, .ireturn, 1)]
theorem dt_X11_undo : wg_dc cX11_undo tb_X11_undo := by unfold wg_dc; decide +kernel
def f_X11_undo  (x0 : Nat) (σ : wg_M) : Option (Int32 × wg_M) := wg_bd (f_X5_goBack (wg_r Sc x0 2) (wg_r Sc (wg_r Sc x0 0) 0) σ) (fun v1 s2 => wg_bz v1 (some (v1, s2)))
set_option maxRecDepth 20000 in
theorem g_X11_undo_e (l : Launch) (E : wg_E)  (x0 : Nat) (σ : wg_M) (z : Int32 × wg_M) (hx0 : wg_t Sc x0 = 13) (h : f_X11_undo  x0 σ = some z) : wg_G l E Sc "WornWigs" cX11_undo 1 (some .boolean) rm_X11_undo (some z.1) z.2 0 [some (.ref x0)] [] σ := by
  refine wr_aload_n (wg_da dt_X11_undo 0 rfl) rfl ?_
  refine wr_getR wf_X11_22 (wg_da dt_X11_undo 1 rfl) hx0 ?_
  refine wr_aload_n (wg_da dt_X11_undo 2 rfl) rfl ?_
  refine wr_getR wf_X11_12 (wg_da dt_X11_undo 3 rfl) hx0 ?_
  refine wr_getR wf_X11_51 (wg_da dt_X11_undo 4 rfl) (wg_ty Sc_ok 11 0 12 hx0 rfl (by decide)).2 ?_
  refine wr_callVi [.ref (wg_r Sc (wg_r Sc x0 0) 0)] [] (wg_da dt_X11_undo 5 rfl) ⟨wq_6_91, wq_6_92, wq_6_93⟩ (wg_ty Sc_ok 11 2 7 hx0 rfl (by decide)).2 ⟨rfl, by decide⟩ wy_X5_goBack (fun q hq => m_X5_goBack l E (wg_r Sc x0 2) (wg_r Sc (wg_r Sc x0 0) 0) (wg_ty Sc_ok 11 2 7 hx0 rfl (by decide)).2 (wg_ty Sc_ok 10 0 2 (wg_ty Sc_ok 11 0 12 hx0 rfl (by decide)).2 rfl (by decide)).2 _ q hq) rfl rfl (Nat.le_of_ble_eq_true rfl) ⟨rfl, rfl, by decide, by decide⟩ h (fun v1 s2 h => ?_)
  exact wr_zret (wg_da dt_X11_undo 6 rfl) h
theorem m_X11_undo (l : Launch) (E : wg_E) (x0 : Nat) (hx0 : wg_t Sc x0 = 13) (σ : wg_M) (q : Int32 × wg_M) (h : f_X11_undo x0 σ = some q) : wg_MG l E Sc yX11_undo cX11_undo 1 (some .boolean) rm_X11_undo [.ref x0] σ (some q.1) q.2 :=
  wg_met [.ref x0] (plainFor_of_name (by decide)) (Nat.le_of_ble_eq_true rfl) (g_X11_undo_e l E x0 σ q hx0 h)
abbrev rm_X11_image : Room := { frames := 5, cells := 0, slots := 0, locals := 124 }
def tb_X11_image : List (Nat × Instr × Nat) := [(0, .iload_n 1, 1), (1, .ifCond .eq 21, 3), (4, .aload_n 0, 1), (5, .getfield 16, 3), (8, .aload_n 0, 1), (9, .getfield 12, 3), (12, .invokevirtual 376, 3), (15, .aload_n 0, 1), (16, .iconst 1, 1), (17, .putfield 379, 3), (20, .iconst 1, 1), (21, .ireturn, 1), (22, .aload_n 0, 1), (23, .getfield 379, 3), (26, .ifCond .ne 5, 3), (29, .iconst 0, 1), (30, .ireturn, 1), (31, .aload_n 0, 1), (32, .getfield 12, 3), (35, .aload_n 0, 1), (36, .getfield 16, 3), (39, .invokevirtual 376, 3), (42, .aload_n 0, 1), (43, .getfield 22, 3), (46, .invokevirtual 61, 3), (49, .iconst 1, 1), (50, .ireturn, 1)]
theorem dt_X11_image : wg_dc cX11_image tb_X11_image := by unfold wg_dc; decide +kernel
def f_X11_image  (x0 : Nat) (x1 : Int32) (σ : wg_M) : Option (Int32 × wg_M) := if x1 = 0 then (if (σ x0 6) = 0 then (some ((0 : Int32), σ)) else (wg_bd (f_X10_copyFrom (wg_r Sc x0 0) (wg_r Sc x0 1) σ) (fun _ s1 => wg_bd (f_X5_forget (wg_r Sc x0 2) s1) (fun _ s2 => some ((1 : Int32), s2))))) else (wg_bd (f_X10_copyFrom (wg_r Sc x0 1) (wg_r Sc x0 0) σ) (fun _ s3 => wg_bz (1 : Int32) (wg_st s3 x0 6 (1 : Int32) (fun s4 => some ((1 : Int32), s4)))))
set_option maxRecDepth 20000 in
theorem g_X11_image_e (l : Launch) (E : wg_E)  (x0 : Nat) (x1 : Int32) (σ : wg_M) (z : Int32 × wg_M) (hx0 : wg_t Sc x0 = 13) (h : f_X11_image  x0 x1 σ = some z) : wg_G l E Sc "WornWigs" cX11_image 2 (some .boolean) rm_X11_image (some z.1) z.2 0 [some (.ref x0), some (.int x1)] [] σ := by
  refine wr_iload_n (wg_da dt_X11_image 0 rfl) rfl ?_
  refine wr_if_eq 22 (wg_da dt_X11_image 1 rfl) (by decide) h (fun h => ?_) (fun h => ?_)
  · refine wr_aload_n (wg_da dt_X11_image 12 rfl) rfl ?_
    refine wr_getI wf_X11_379 (wg_da dt_X11_image 13 rfl) hx0 ?_
    refine wr_if_ne 31 (wg_da dt_X11_image 14 rfl) (by decide) h (fun h => ?_) (fun h => ?_)
    · refine wr_iconst (0 : Int32) (wg_da dt_X11_image 15 rfl) (by decide) ?_
      exact wr_zret0 (wg_da dt_X11_image 16 rfl) h
    · refine wr_aload_n (wg_da dt_X11_image 17 rfl) rfl ?_
      refine wr_getR wf_X11_12 (wg_da dt_X11_image 18 rfl) hx0 ?_
      refine wr_aload_n (wg_da dt_X11_image 19 rfl) rfl ?_
      refine wr_getR wf_X11_16 (wg_da dt_X11_image 20 rfl) hx0 ?_
      refine wr_callVv [.ref (wg_r Sc x0 1)] [] (wg_da dt_X11_image 21 rfl) ⟨wq_6_99, wq_6_100, wq_6_101⟩ (wg_ty Sc_ok 11 0 12 hx0 rfl (by decide)).2 ⟨rfl, by decide⟩ wy_X10_copyFrom (fun q hq => m_X10_copyFrom l E (wg_r Sc x0 0) (wg_r Sc x0 1) (wg_ty Sc_ok 11 0 12 hx0 rfl (by decide)).2 (wg_ty Sc_ok 11 1 12 hx0 rfl (by decide)).2 _ q hq) rfl rfl (Nat.le_of_ble_eq_true rfl) ⟨rfl, rfl, by decide, by decide⟩ h (fun _ s1 h => ?_)
      refine wr_aload_n (wg_da dt_X11_image 22 rfl) rfl ?_
      refine wr_getR wf_X11_22 (wg_da dt_X11_image 23 rfl) hx0 ?_
      refine wr_callVv [] [] (wg_da dt_X11_image 24 rfl) ⟨wq_3_40, wq_3_41, wq_3_42⟩ (wg_ty Sc_ok 11 2 7 hx0 rfl (by decide)).2 ⟨rfl, by decide⟩ wy_X5_forget (fun q hq => m_X5_forget l E (wg_r Sc x0 2) (wg_ty Sc_ok 11 2 7 hx0 rfl (by decide)).2 _ q hq) rfl rfl (Nat.le_of_ble_eq_true rfl) ⟨rfl, rfl, by decide, by decide⟩ h (fun _ s2 h => ?_)
      refine wr_iconst (1 : Int32) (wg_da dt_X11_image 25 rfl) (by decide) ?_
      exact wr_zret1 (wg_da dt_X11_image 26 rfl) h
  · refine wr_aload_n (wg_da dt_X11_image 2 rfl) rfl ?_
    refine wr_getR wf_X11_16 (wg_da dt_X11_image 3 rfl) hx0 ?_
    refine wr_aload_n (wg_da dt_X11_image 4 rfl) rfl ?_
    refine wr_getR wf_X11_12 (wg_da dt_X11_image 5 rfl) hx0 ?_
    refine wr_callVv [.ref (wg_r Sc x0 0)] [] (wg_da dt_X11_image 6 rfl) ⟨wq_6_99, wq_6_100, wq_6_101⟩ (wg_ty Sc_ok 11 1 12 hx0 rfl (by decide)).2 ⟨rfl, by decide⟩ wy_X10_copyFrom (fun q hq => m_X10_copyFrom l E (wg_r Sc x0 1) (wg_r Sc x0 0) (wg_ty Sc_ok 11 1 12 hx0 rfl (by decide)).2 (wg_ty Sc_ok 11 0 12 hx0 rfl (by decide)).2 _ q hq) rfl rfl (Nat.le_of_ble_eq_true rfl) ⟨rfl, rfl, by decide, by decide⟩ h (fun _ s3 h => ?_)
    refine wr_aload_n (wg_da dt_X11_image 7 rfl) rfl ?_
    refine wr_iconst (1 : Int32) (wg_da dt_X11_image 8 rfl) (by decide) ?_
    refine wr_putZ wfp_X11_379 (wg_da dt_X11_image 9 rfl) hx0 h (fun s4 h => ?_)
    refine wr_iconst (1 : Int32) (wg_da dt_X11_image 10 rfl) (by decide) ?_
    exact wr_zret1 (wg_da dt_X11_image 11 rfl) h
theorem m_X11_image (l : Launch) (E : wg_E) (x0 : Nat) (x1 : Int32) (hx0 : wg_t Sc x0 = 13) (σ : wg_M) (q : Int32 × wg_M) (h : f_X11_image x0 x1 σ = some q) : wg_MG l E Sc yX11_image cX11_image 2 (some .boolean) rm_X11_image [.ref x0, .int x1] σ (some q.1) q.2 :=
  wg_met [.ref x0, .int x1] (plainFor_of_name (by decide)) (Nat.le_of_ble_eq_true rfl) (g_X11_image_e l E x0 x1 σ q hx0 h)
abbrev rm_X11_look : Room := { frames := 1, cells := 0, slots := 0, locals := 22 }
def tb_X11_look : List (Nat × Instr × Nat) := [(0, .aload_n 0, 1), (1, .getfield 12, 3), (4, .getfield 51, 3), (7, .astore_n 2, 1), (8, .iload_n 1, 1), (9, .tableswitch 168 0 12 #[67, 75, 83, 88, 93, 101, 106, 111, 116, 127, 138, 149, 160], 67), (76, .aload_n 2, 1), (77, .getfield 64, 3), (80, .getfield 68, 3), (83, .ireturn, 1), (84, .aload_n 2, 1), (85, .getfield 81, 3), (88, .getfield 85, 3), (91, .ireturn, 1), (92, .aload_n 2, 1), (93, .getfield 89, 3), (96, .ireturn, 1), (97, .aload_n 2, 1), (98, .getfield 149, 3), (101, .ireturn, 1), (102, .aload_n 2, 1), (103, .getfield 81, 3), (106, .invokevirtual 383, 3), (109, .ireturn, 1), (110, .aload_n 2, 1), (111, .invokevirtual 386, 3), (114, .ireturn, 1), (115, .aload_n 2, 1), (116, .getfield 246, 3), (119, .ireturn, 1), (120, .aload_n 2, 1), (121, .getfield 55, 3), (124, .ireturn, 1), (125, .aload_n 0, 1), (126, .getfield 12, 3), (129, .getfield 173, 3), (132, .getfield 177, 3), (135, .ireturn, 1), (136, .aload_n 0, 1), (137, .getfield 12, 3), (140, .getfield 389, 3), (143, .getfield 188, 3), (146, .ireturn, 1), (147, .aload_n 0, 1), (148, .getfield 12, 3), (151, .getfield 392, 3), (154, .getfield 188, 3), (157, .ireturn, 1), (158, .aload_n 0, 1), (159, .getfield 12, 3), (162, .getfield 395, 3), (165, .getfield 188, 3), (168, .ireturn, 1), (169, .aload_n 0, 1), (170, .getfield 22, 3), (173, .getfield 398, 3), (176, .ireturn, 1), (177, .iconst (-1), 1), (178, .ireturn, 1)]
theorem dt_X11_look : wg_dc cX11_look tb_X11_look := by unfold wg_dc; decide +kernel
def f_X11_look  (x0 : Nat) (x1 : Int32) (σ : wg_M) : Option (Int32 × wg_M) := wg_sw x1 (0) [some (σ (wg_r Sc (wg_r Sc (wg_r Sc x0 0) 0) 0) 8, σ), some (σ (wg_r Sc (wg_r Sc (wg_r Sc x0 0) 0) 1) 5, σ), some (σ (wg_r Sc (wg_r Sc x0 0) 0) 6, σ), some (σ (wg_r Sc (wg_r Sc x0 0) 0) 7, σ), wg_bd (f_X2_deadSet (wg_r Sc (wg_r Sc (wg_r Sc x0 0) 0) 1) σ) (fun v1 s2 => some (v1, s2)), wg_bd (f_X0_openSet (wg_r Sc (wg_r Sc x0 0) 0) σ) (fun v3 s4 => some (v3, s4)), some (σ (wg_r Sc (wg_r Sc x0 0) 0) 9, σ), some (σ (wg_r Sc (wg_r Sc x0 0) 0) 8, σ), some (σ (wg_r Sc (wg_r Sc x0 0) 2) 6, σ), some (σ (wg_r Sc (wg_r Sc x0 0) 3) 4, σ), some (σ (wg_r Sc (wg_r Sc x0 0) 4) 4, σ), some (σ (wg_r Sc (wg_r Sc x0 0) 5) 4, σ), some (σ (wg_r Sc x0 2) 2, σ)] (some ((-1 : Int32), σ))
set_option maxRecDepth 20000 in
theorem g_X11_look_e (l : Launch) (E : wg_E)  (x0 : Nat) (x1 : Int32) (σ : wg_M) (z : Int32 × wg_M) (hx0 : wg_t Sc x0 = 13) (h : f_X11_look  x0 x1 σ = some z) : wg_G l E Sc "WornWigs" cX11_look 3 (some .int) rm_X11_look (some z.1) z.2 0 [some (.ref x0), some (.int x1), none] [] σ := by
  refine wr_aload_n (wg_da dt_X11_look 0 rfl) rfl ?_
  refine wr_getR wf_X11_12 (wg_da dt_X11_look 1 rfl) hx0 ?_
  refine wr_getR wf_X11_51 (wg_da dt_X11_look 2 rfl) (wg_ty Sc_ok 11 0 12 hx0 rfl (by decide)).2 ?_
  refine wr_astore_n (wg_da dt_X11_look 3 rfl) (by decide) ?_
  refine wr_iload_n (wg_da dt_X11_look 4 rfl) rfl ?_
  refine wr_tsw [76, 84, 92, 97, 102, 110, 115, 120, 125, 136, 147, 158, 169] 177 (wg_da dt_X11_look 5 rfl) rfl rfl (by decide) (by decide) h (wg_all_c (fun h => ?_) (wg_all_c (fun h => ?_) (wg_all_c (fun h => ?_) (wg_all_c (fun h => ?_) (wg_all_c (fun h => ?_) (wg_all_c (fun h => ?_) (wg_all_c (fun h => ?_) (wg_all_c (fun h => ?_) (wg_all_c (fun h => ?_) (wg_all_c (fun h => ?_) (wg_all_c (fun h => ?_) (wg_all_c (fun h => ?_) (wg_all_c (fun h => ?_) (wg_all_n)))))))))))))) (fun h => ?_)
  · refine wr_aload_n (wg_da dt_X11_look 6 rfl) rfl ?_
    refine wr_getR wf_X11_64 (wg_da dt_X11_look 7 rfl) (wg_ty Sc_ok 10 0 2 (wg_ty Sc_ok 11 0 12 hx0 rfl (by decide)).2 rfl (by decide)).2 ?_
    refine wr_getI wf_X11_68 (wg_da dt_X11_look 8 rfl) (wg_ty Sc_ok 0 0 11 (wg_ty Sc_ok 10 0 2 (wg_ty Sc_ok 11 0 12 hx0 rfl (by decide)).2 rfl (by decide)).2 rfl (by decide)).2 ?_
    exact wr_iret (wg_da dt_X11_look 9 rfl) h
  · refine wr_aload_n (wg_da dt_X11_look 10 rfl) rfl ?_
    refine wr_getR wf_X11_81 (wg_da dt_X11_look 11 rfl) (wg_ty Sc_ok 10 0 2 (wg_ty Sc_ok 11 0 12 hx0 rfl (by decide)).2 rfl (by decide)).2 ?_
    refine wr_getI wf_X11_85 (wg_da dt_X11_look 12 rfl) (wg_ty Sc_ok 0 1 4 (wg_ty Sc_ok 10 0 2 (wg_ty Sc_ok 11 0 12 hx0 rfl (by decide)).2 rfl (by decide)).2 rfl (by decide)).2 ?_
    exact wr_iret (wg_da dt_X11_look 13 rfl) h
  · refine wr_aload_n (wg_da dt_X11_look 14 rfl) rfl ?_
    refine wr_getI wf_X11_89 (wg_da dt_X11_look 15 rfl) (wg_ty Sc_ok 10 0 2 (wg_ty Sc_ok 11 0 12 hx0 rfl (by decide)).2 rfl (by decide)).2 ?_
    exact wr_iret (wg_da dt_X11_look 16 rfl) h
  · refine wr_aload_n (wg_da dt_X11_look 17 rfl) rfl ?_
    refine wr_getI wf_X11_149 (wg_da dt_X11_look 18 rfl) (wg_ty Sc_ok 10 0 2 (wg_ty Sc_ok 11 0 12 hx0 rfl (by decide)).2 rfl (by decide)).2 ?_
    exact wr_iret (wg_da dt_X11_look 19 rfl) h
  · refine wr_aload_n (wg_da dt_X11_look 20 rfl) rfl ?_
    refine wr_getR wf_X11_81 (wg_da dt_X11_look 21 rfl) (wg_ty Sc_ok 10 0 2 (wg_ty Sc_ok 11 0 12 hx0 rfl (by decide)).2 rfl (by decide)).2 ?_
    refine wr_callVi [] [] (wg_da dt_X11_look 22 rfl) ⟨wq_6_115, wq_5_80, wq_5_81⟩ (wg_ty Sc_ok 0 1 4 (wg_ty Sc_ok 10 0 2 (wg_ty Sc_ok 11 0 12 hx0 rfl (by decide)).2 rfl (by decide)).2 rfl (by decide)).2 ⟨rfl, by decide⟩ wy_X2_deadSet (fun q hq => m_X2_deadSet l E (wg_r Sc (wg_r Sc (wg_r Sc x0 0) 0) 1) (wg_ty Sc_ok 0 1 4 (wg_ty Sc_ok 10 0 2 (wg_ty Sc_ok 11 0 12 hx0 rfl (by decide)).2 rfl (by decide)).2 rfl (by decide)).2 _ q hq) rfl rfl (Nat.le_of_ble_eq_true rfl) ⟨rfl, rfl, by decide, by decide⟩ h (fun v1 s2 h => ?_)
    exact wr_iret (wg_da dt_X11_look 23 rfl) h
  · refine wr_aload_n (wg_da dt_X11_look 24 rfl) rfl ?_
    refine wr_callVi [] [] (wg_da dt_X11_look 25 rfl) ⟨wq_6_116, wq_6_117, wq_6_118⟩ (wg_ty Sc_ok 10 0 2 (wg_ty Sc_ok 11 0 12 hx0 rfl (by decide)).2 rfl (by decide)).2 ⟨rfl, by decide⟩ wy_X0_openSet (fun q hq => m_X0_openSet l E (wg_r Sc (wg_r Sc x0 0) 0) (wg_ty Sc_ok 10 0 2 (wg_ty Sc_ok 11 0 12 hx0 rfl (by decide)).2 rfl (by decide)).2 _ q hq) rfl rfl (Nat.le_of_ble_eq_true rfl) ⟨rfl, rfl, by decide, by decide⟩ h (fun v3 s4 h => ?_)
    exact wr_iret (wg_da dt_X11_look 26 rfl) h
  · refine wr_aload_n (wg_da dt_X11_look 27 rfl) rfl ?_
    refine wr_getI wf_X11_246 (wg_da dt_X11_look 28 rfl) (wg_ty Sc_ok 10 0 2 (wg_ty Sc_ok 11 0 12 hx0 rfl (by decide)).2 rfl (by decide)).2 ?_
    exact wr_iret (wg_da dt_X11_look 29 rfl) h
  · refine wr_aload_n (wg_da dt_X11_look 30 rfl) rfl ?_
    refine wr_getI wf_X11_55 (wg_da dt_X11_look 31 rfl) (wg_ty Sc_ok 10 0 2 (wg_ty Sc_ok 11 0 12 hx0 rfl (by decide)).2 rfl (by decide)).2 ?_
    exact wr_iret (wg_da dt_X11_look 32 rfl) h
  · refine wr_aload_n (wg_da dt_X11_look 33 rfl) rfl ?_
    refine wr_getR wf_X11_12 (wg_da dt_X11_look 34 rfl) hx0 ?_
    refine wr_getR wf_X11_173 (wg_da dt_X11_look 35 rfl) (wg_ty Sc_ok 11 0 12 hx0 rfl (by decide)).2 ?_
    refine wr_getI wf_X11_177 (wg_da dt_X11_look 36 rfl) (wg_ty Sc_ok 10 2 5 (wg_ty Sc_ok 11 0 12 hx0 rfl (by decide)).2 rfl (by decide)).2 ?_
    exact wr_iret (wg_da dt_X11_look 37 rfl) h
  · refine wr_aload_n (wg_da dt_X11_look 38 rfl) rfl ?_
    refine wr_getR wf_X11_12 (wg_da dt_X11_look 39 rfl) hx0 ?_
    refine wr_getR wf_X11_389 (wg_da dt_X11_look 40 rfl) (wg_ty Sc_ok 11 0 12 hx0 rfl (by decide)).2 ?_
    refine wr_getI wf_X11_188 (wg_da dt_X11_look 41 rfl) (wg_ty Sc_ok 10 3 6 (wg_ty Sc_ok 11 0 12 hx0 rfl (by decide)).2 rfl (by decide)).2 ?_
    exact wr_iret (wg_da dt_X11_look 42 rfl) h
  · refine wr_aload_n (wg_da dt_X11_look 43 rfl) rfl ?_
    refine wr_getR wf_X11_12 (wg_da dt_X11_look 44 rfl) hx0 ?_
    refine wr_getR wf_X11_392 (wg_da dt_X11_look 45 rfl) (wg_ty Sc_ok 11 0 12 hx0 rfl (by decide)).2 ?_
    refine wr_getI wf_X11_188 (wg_da dt_X11_look 46 rfl) (wg_ty Sc_ok 10 4 6 (wg_ty Sc_ok 11 0 12 hx0 rfl (by decide)).2 rfl (by decide)).2 ?_
    exact wr_iret (wg_da dt_X11_look 47 rfl) h
  · refine wr_aload_n (wg_da dt_X11_look 48 rfl) rfl ?_
    refine wr_getR wf_X11_12 (wg_da dt_X11_look 49 rfl) hx0 ?_
    refine wr_getR wf_X11_395 (wg_da dt_X11_look 50 rfl) (wg_ty Sc_ok 11 0 12 hx0 rfl (by decide)).2 ?_
    refine wr_getI wf_X11_188 (wg_da dt_X11_look 51 rfl) (wg_ty Sc_ok 10 5 6 (wg_ty Sc_ok 11 0 12 hx0 rfl (by decide)).2 rfl (by decide)).2 ?_
    exact wr_iret (wg_da dt_X11_look 52 rfl) h
  · refine wr_aload_n (wg_da dt_X11_look 53 rfl) rfl ?_
    refine wr_getR wf_X11_22 (wg_da dt_X11_look 54 rfl) hx0 ?_
    refine wr_getI wf_X11_398 (wg_da dt_X11_look 55 rfl) (wg_ty Sc_ok 11 2 7 hx0 rfl (by decide)).2 ?_
    exact wr_iret (wg_da dt_X11_look 56 rfl) h
  · refine wr_iconst (-1 : Int32) (wg_da dt_X11_look 57 rfl) (by decide) ?_
    exact wr_iret (wg_da dt_X11_look 58 rfl) h
theorem m_X11_look (l : Launch) (E : wg_E) (x0 : Nat) (x1 : Int32) (hx0 : wg_t Sc x0 = 13) (σ : wg_M) (q : Int32 × wg_M) (h : f_X11_look x0 x1 σ = some q) : wg_MG l E Sc yX11_look cX11_look 3 (some .int) rm_X11_look [.ref x0, .int x1] σ (some q.1) q.2 :=
  wg_met [.ref x0, .int x1] (plainFor_of_name (by decide)) (Nat.le_of_ble_eq_true rfl) (g_X11_look_e l E x0 x1 σ q hx0 h)
abbrev rm_X12_isIn : Room := { frames := 0, cells := 0, slots := 0, locals := 0 }
def tb_X12_isIn : List (Nat × Instr × Nat) := [(0, .iload_n 1, 1), (1, .iload_n 2, 1), (2, .if_icmp .lt 12, 3), (5, .iload_n 1, 1), (6, .iload_n 3, 1), (7, .if_icmp .gt 7, 3), (10, .iconst 1, 1), (11, .goto 4, 3), (14, .iconst 0, 1), (15, .ireturn, 1)]
theorem dt_X12_isIn : wg_dc cX12_isIn tb_X12_isIn := by unfold wg_dc; decide +kernel
def f_X12_isIn  (x0 : Nat) (x1 : Int32) (x2 : Int32) (x3 : Int32) (σ : wg_M) : Option (Int32 × wg_M) := if x1 < x2 then (some ((0 : Int32), σ)) else (if x3 < x1 then (some ((0 : Int32), σ)) else (some ((1 : Int32), σ)))
set_option maxRecDepth 20000 in
theorem g_X12_isIn_e (l : Launch) (E : wg_E)  (x0 : Nat) (x1 : Int32) (x2 : Int32) (x3 : Int32) (σ : wg_M) (z : Int32 × wg_M) (hx0 : wg_t Sm x0 = 14) (h : f_X12_isIn  x0 x1 x2 x3 σ = some z) : wg_G l E Sm "WornWigsModel" cX12_isIn 4 (some .boolean) rm_X12_isIn (some z.1) z.2 0 [some (.ref x0), some (.int x1), some (.int x2), some (.int x3)] [] σ := by
  refine wr_iload_n (wg_da dt_X12_isIn 0 rfl) rfl ?_
  refine wr_iload_n (wg_da dt_X12_isIn 1 rfl) rfl ?_
  refine wr_icmp_lt 14 (wg_da dt_X12_isIn 2 rfl) (by decide) h (fun h => ?_) (fun h => ?_)
  · refine wr_iconst (0 : Int32) (wg_da dt_X12_isIn 8 rfl) (by decide) ?_
    exact wr_zret0 (wg_da dt_X12_isIn 9 rfl) h
  · refine wr_iload_n (wg_da dt_X12_isIn 3 rfl) rfl ?_
    refine wr_iload_n (wg_da dt_X12_isIn 4 rfl) rfl ?_
    refine wr_icmp_gt 14 (wg_da dt_X12_isIn 5 rfl) (by decide) h (fun h => ?_) (fun h => ?_)
    · refine wr_iconst (0 : Int32) (wg_da dt_X12_isIn 8 rfl) (by decide) ?_
      exact wr_zret0 (wg_da dt_X12_isIn 9 rfl) h
    · refine wr_iconst (1 : Int32) (wg_da dt_X12_isIn 6 rfl) (by decide) ?_
      refine wr_goto 15 (wg_da dt_X12_isIn 7 rfl) (by decide) ?_
      exact wr_zret1 (wg_da dt_X12_isIn 9 rfl) h
theorem m_X12_isIn (l : Launch) (E : wg_E) (x0 : Nat) (x1 : Int32) (x2 : Int32) (x3 : Int32) (hx0 : wg_t Sm x0 = 14) (σ : wg_M) (q : Int32 × wg_M) (h : f_X12_isIn x0 x1 x2 x3 σ = some q) : wg_MG l E Sm yX12_isIn cX12_isIn 4 (some .boolean) rm_X12_isIn [.ref x0, .int x1, .int x2, .int x3] σ (some q.1) q.2 :=
  wg_met [.ref x0, .int x1, .int x2, .int x3] (plainFor_of_name (by decide)) (Nat.le_of_ble_eq_true rfl) (g_X12_isIn_e l E x0 x1 x2 x3 σ q hx0 h)
abbrev rm_X12_held : Room := { frames := 0, cells := 0, slots := 0, locals := 0 }
def tb_X12_held : List (Nat × Instr × Nat) := [(0, .iload_n 1, 1), (1, .iload_n 2, 1), (2, .if_icmp .ge 7, 3), (5, .iload_n 2, 1), (6, .goto 13, 3), (9, .iload_n 1, 1), (10, .iload_n 3, 1), (11, .if_icmp .le 7, 3), (14, .iload_n 3, 1), (15, .goto 4, 3), (18, .iload_n 1, 1), (19, .ireturn, 1)]
theorem dt_X12_held : wg_dc cX12_held tb_X12_held := by unfold wg_dc; decide +kernel
def f_X12_held  (x0 : Nat) (x1 : Int32) (x2 : Int32) (x3 : Int32) (σ : wg_M) : Option (Int32 × wg_M) := if x2 ≤ x1 then (if x1 ≤ x3 then (some (x1, σ)) else (some (x3, σ))) else (some (x2, σ))
set_option maxRecDepth 20000 in
theorem g_X12_held_e (l : Launch) (E : wg_E)  (x0 : Nat) (x1 : Int32) (x2 : Int32) (x3 : Int32) (σ : wg_M) (z : Int32 × wg_M) (hx0 : wg_t Sm x0 = 14) (h : f_X12_held  x0 x1 x2 x3 σ = some z) : wg_G l E Sm "WornWigsModel" cX12_held 4 (some .int) rm_X12_held (some z.1) z.2 0 [some (.ref x0), some (.int x1), some (.int x2), some (.int x3)] [] σ := by
  refine wr_iload_n (wg_da dt_X12_held 0 rfl) rfl ?_
  refine wr_iload_n (wg_da dt_X12_held 1 rfl) rfl ?_
  refine wr_icmp_ge 9 (wg_da dt_X12_held 2 rfl) (by decide) h (fun h => ?_) (fun h => ?_)
  · refine wr_iload_n (wg_da dt_X12_held 5 rfl) rfl ?_
    refine wr_iload_n (wg_da dt_X12_held 6 rfl) rfl ?_
    refine wr_icmp_le 18 (wg_da dt_X12_held 7 rfl) (by decide) h (fun h => ?_) (fun h => ?_)
    · refine wr_iload_n (wg_da dt_X12_held 10 rfl) rfl ?_
      exact wr_iret (wg_da dt_X12_held 11 rfl) h
    · refine wr_iload_n (wg_da dt_X12_held 8 rfl) rfl ?_
      refine wr_goto 19 (wg_da dt_X12_held 9 rfl) (by decide) ?_
      exact wr_iret (wg_da dt_X12_held 11 rfl) h
  · refine wr_iload_n (wg_da dt_X12_held 3 rfl) rfl ?_
    refine wr_goto 19 (wg_da dt_X12_held 4 rfl) (by decide) ?_
    exact wr_iret (wg_da dt_X12_held 11 rfl) h
theorem m_X12_held (l : Launch) (E : wg_E) (x0 : Nat) (x1 : Int32) (x2 : Int32) (x3 : Int32) (hx0 : wg_t Sm x0 = 14) (σ : wg_M) (q : Int32 × wg_M) (h : f_X12_held x0 x1 x2 x3 σ = some q) : wg_MG l E Sm yX12_held cX12_held 4 (some .int) rm_X12_held [.ref x0, .int x1, .int x2, .int x3] σ (some q.1) q.2 :=
  wg_met [.ref x0, .int x1, .int x2, .int x3] (plainFor_of_name (by decide)) (Nat.le_of_ble_eq_true rfl) (g_X12_held_e l E x0 x1 x2 x3 σ q hx0 h)
abbrev rm_X12_greater : Room := { frames := 0, cells := 0, slots := 0, locals := 0 }
def tb_X12_greater : List (Nat × Instr × Nat) := [(0, .iload_n 1, 1), (1, .iload_n 2, 1), (2, .if_icmp .le 7, 3), (5, .iload_n 1, 1), (6, .goto 4, 3), (9, .iload_n 2, 1), (10, .ireturn, 1)]
theorem dt_X12_greater : wg_dc cX12_greater tb_X12_greater := by unfold wg_dc; decide +kernel
def f_X12_greater  (x0 : Nat) (x1 : Int32) (x2 : Int32) (σ : wg_M) : Option (Int32 × wg_M) := if x1 ≤ x2 then (some (x2, σ)) else (some (x1, σ))
set_option maxRecDepth 20000 in
theorem g_X12_greater_e (l : Launch) (E : wg_E)  (x0 : Nat) (x1 : Int32) (x2 : Int32) (σ : wg_M) (z : Int32 × wg_M) (hx0 : wg_t Sm x0 = 14) (h : f_X12_greater  x0 x1 x2 σ = some z) : wg_G l E Sm "WornWigsModel" cX12_greater 3 (some .int) rm_X12_greater (some z.1) z.2 0 [some (.ref x0), some (.int x1), some (.int x2)] [] σ := by
  refine wr_iload_n (wg_da dt_X12_greater 0 rfl) rfl ?_
  refine wr_iload_n (wg_da dt_X12_greater 1 rfl) rfl ?_
  refine wr_icmp_le 9 (wg_da dt_X12_greater 2 rfl) (by decide) h (fun h => ?_) (fun h => ?_)
  · refine wr_iload_n (wg_da dt_X12_greater 5 rfl) rfl ?_
    exact wr_iret (wg_da dt_X12_greater 6 rfl) h
  · refine wr_iload_n (wg_da dt_X12_greater 3 rfl) rfl ?_
    refine wr_goto 10 (wg_da dt_X12_greater 4 rfl) (by decide) ?_
    exact wr_iret (wg_da dt_X12_greater 6 rfl) h
theorem m_X12_greater (l : Launch) (E : wg_E) (x0 : Nat) (x1 : Int32) (x2 : Int32) (hx0 : wg_t Sm x0 = 14) (σ : wg_M) (q : Int32 × wg_M) (h : f_X12_greater x0 x1 x2 σ = some q) : wg_MG l E Sm yX12_greater cX12_greater 3 (some .int) rm_X12_greater [.ref x0, .int x1, .int x2] σ (some q.1) q.2 :=
  wg_met [.ref x0, .int x1, .int x2] (plainFor_of_name (by decide)) (Nat.le_of_ble_eq_true rfl) (g_X12_greater_e l E x0 x1 x2 σ q hx0 h)
abbrev rm_X12_lesser : Room := { frames := 0, cells := 0, slots := 0, locals := 0 }
def tb_X12_lesser : List (Nat × Instr × Nat) := [(0, .iload_n 1, 1), (1, .iload_n 2, 1), (2, .if_icmp .ge 7, 3), (5, .iload_n 1, 1), (6, .goto 4, 3), (9, .iload_n 2, 1), (10, .ireturn, 1)]
theorem dt_X12_lesser : wg_dc cX12_lesser tb_X12_lesser := by unfold wg_dc; decide +kernel
def f_X12_lesser  (x0 : Nat) (x1 : Int32) (x2 : Int32) (σ : wg_M) : Option (Int32 × wg_M) := if x2 ≤ x1 then (some (x2, σ)) else (some (x1, σ))
set_option maxRecDepth 20000 in
theorem g_X12_lesser_e (l : Launch) (E : wg_E)  (x0 : Nat) (x1 : Int32) (x2 : Int32) (σ : wg_M) (z : Int32 × wg_M) (hx0 : wg_t Sm x0 = 14) (h : f_X12_lesser  x0 x1 x2 σ = some z) : wg_G l E Sm "WornWigsModel" cX12_lesser 3 (some .int) rm_X12_lesser (some z.1) z.2 0 [some (.ref x0), some (.int x1), some (.int x2)] [] σ := by
  refine wr_iload_n (wg_da dt_X12_lesser 0 rfl) rfl ?_
  refine wr_iload_n (wg_da dt_X12_lesser 1 rfl) rfl ?_
  refine wr_icmp_ge 9 (wg_da dt_X12_lesser 2 rfl) (by decide) h (fun h => ?_) (fun h => ?_)
  · refine wr_iload_n (wg_da dt_X12_lesser 5 rfl) rfl ?_
    exact wr_iret (wg_da dt_X12_lesser 6 rfl) h
  · refine wr_iload_n (wg_da dt_X12_lesser 3 rfl) rfl ?_
    refine wr_goto 10 (wg_da dt_X12_lesser 4 rfl) (by decide) ?_
    exact wr_iret (wg_da dt_X12_lesser 6 rfl) h
theorem m_X12_lesser (l : Launch) (E : wg_E) (x0 : Nat) (x1 : Int32) (x2 : Int32) (hx0 : wg_t Sm x0 = 14) (σ : wg_M) (q : Int32 × wg_M) (h : f_X12_lesser x0 x1 x2 σ = some q) : wg_MG l E Sm yX12_lesser cX12_lesser 3 (some .int) rm_X12_lesser [.ref x0, .int x1, .int x2] σ (some q.1) q.2 :=
  wg_met [.ref x0, .int x1, .int x2] (plainFor_of_name (by decide)) (Nat.le_of_ble_eq_true rfl) (g_X12_lesser_e l E x0 x1 x2 σ q hx0 h)
abbrev rm_X12_onesOf : Room := { frames := 0, cells := 0, slots := 0, locals := 0 }
def tb_X12_onesOf : List (Nat × Instr × Nat) := [(0, .iconst 0, 1), (1, .istore_n 2, 1), (2, .iload_n 1, 1), (3, .istore_n 3, 1), (4, .iload_n 3, 1), (5, .ifCond .eq 16, 3), (8, .iload_n 2, 1), (9, .iconst 1, 1), (10, .iadd, 1), (11, .istore_n 2, 1), (12, .iload_n 3, 1), (13, .iload_n 3, 1), (14, .iconst 1, 1), (15, .isub, 1), (16, .iand, 1), (17, .istore_n 3, 1), (18, .goto (-14), 3), (21, .iload_n 2, 1), (22, .ireturn, 1)]
theorem dt_X12_onesOf : wg_dc cX12_onesOf tb_X12_onesOf := by unfold wg_dc; decide +kernel
def f_X12_onesOf_4  : Nat → Int32 → Int32 → wg_M → Option (Int32 × wg_M)
  | 0, _, _, _ => none
  | n + 1, x2, x3, σ => if x3 = 0 then (some (x2, σ)) else (wg_let (x2 + (1 : Int32)) (fun v1 => wg_let (x3 &&& (x3 - (1 : Int32))) (fun v2 => f_X12_onesOf_4  n v1 v2 σ)))
def f_X12_onesOf  (x0 : Nat) (x1 : Int32) (σ : wg_M) : Option (Int32 × wg_M) := f_X12_onesOf_4  wg_N (0 : Int32) x1 σ
set_option maxRecDepth 20000 in
theorem g_X12_onesOf_4 (l : Launch) (E : wg_E)  (z : Int32 × wg_M) : ∀ (n : Nat) (x2 : Int32) (x3 : Int32) (σ : wg_M)  (h : f_X12_onesOf_4  n x2 x3 σ = some z), wg_G l E Sm "WornWigsModel" cX12_onesOf 4 (some .int) rm_X12_onesOf (some z.1) z.2 4 [none, none, some (.int x2), some (.int x3)] [] σ := by
  intro n
  induction n with
  | zero => intro x2 x3 σ  h; cases h
  | succ n ih =>
    intro x2 x3 σ  h
    refine wr_iload_n (wg_da dt_X12_onesOf 4 rfl) rfl ?_
    refine wr_if_eq 21 (wg_da dt_X12_onesOf 5 rfl) (by decide) h (fun h => ?_) (fun h => ?_)
    · refine wr_iload_n (wg_da dt_X12_onesOf 17 rfl) rfl ?_
      exact wr_iret (wg_da dt_X12_onesOf 18 rfl) h
    · refine wr_iload_n (wg_da dt_X12_onesOf 6 rfl) rfl ?_
      refine wr_iconst (1 : Int32) (wg_da dt_X12_onesOf 7 rfl) (by decide) ?_
      refine wr_iadd (wg_da dt_X12_onesOf 8 rfl) ?_
      refine wr_let h (fun v1 h => ?_)
      refine wr_istore_n (wg_da dt_X12_onesOf 9 rfl) (by decide) ?_
      refine wr_iload_n (wg_da dt_X12_onesOf 10 rfl) rfl ?_
      refine wr_iload_n (wg_da dt_X12_onesOf 11 rfl) rfl ?_
      refine wr_iconst (1 : Int32) (wg_da dt_X12_onesOf 12 rfl) (by decide) ?_
      refine wr_isub (wg_da dt_X12_onesOf 13 rfl) ?_
      refine wr_iand (wg_da dt_X12_onesOf 14 rfl) ?_
      refine wr_let h (fun v2 h => ?_)
      refine wr_istore_n (wg_da dt_X12_onesOf 15 rfl) (by decide) ?_
      refine wr_goto 4 (wg_da dt_X12_onesOf 16 rfl) (by decide) ?_
      exact wr_wk [false, false, true, true] (ih v1 v2 σ  h)
set_option maxRecDepth 20000 in
theorem g_X12_onesOf_e (l : Launch) (E : wg_E)  (x0 : Nat) (x1 : Int32) (σ : wg_M) (z : Int32 × wg_M) (hx0 : wg_t Sm x0 = 14) (h : f_X12_onesOf  x0 x1 σ = some z) : wg_G l E Sm "WornWigsModel" cX12_onesOf 4 (some .int) rm_X12_onesOf (some z.1) z.2 0 [some (.ref x0), some (.int x1), none, none] [] σ := by
  refine wr_iconst (0 : Int32) (wg_da dt_X12_onesOf 0 rfl) (by decide) ?_
  refine wr_istore_n (wg_da dt_X12_onesOf 1 rfl) (by decide) ?_
  refine wr_iload_n (wg_da dt_X12_onesOf 2 rfl) rfl ?_
  refine wr_istore_n (wg_da dt_X12_onesOf 3 rfl) (by decide) ?_
  exact wr_wk [false, false, true, true] (g_X12_onesOf_4 l E  _  wg_N (0 : Int32) x1 σ  h)
theorem m_X12_onesOf (l : Launch) (E : wg_E) (x0 : Nat) (x1 : Int32) (hx0 : wg_t Sm x0 = 14) (σ : wg_M) (q : Int32 × wg_M) (h : f_X12_onesOf x0 x1 σ = some q) : wg_MG l E Sm yX12_onesOf cX12_onesOf 4 (some .int) rm_X12_onesOf [.ref x0, .int x1] σ (some q.1) q.2 :=
  wg_met [.ref x0, .int x1] (plainFor_of_name (by decide)) (Nat.le_of_ble_eq_true rfl) (g_X12_onesOf_e l E x0 x1 σ q hx0 h)
abbrev rm_X12_has : Room := { frames := 0, cells := 0, slots := 0, locals := 0 }
def tb_X12_has : List (Nat × Instr × Nat) := [(0, .iload_n 1, 1), (1, .iload_n 2, 1), (2, .ishr, 1), (3, .iconst 1, 1), (4, .iand, 1), (5, .iconst 1, 1), (6, .if_icmp .ne 7, 3), (9, .iconst 1, 1), (10, .goto 4, 3), (13, .iconst 0, 1), (14, .ireturn, 1)]
theorem dt_X12_has : wg_dc cX12_has tb_X12_has := by unfold wg_dc; decide +kernel
def f_X12_has  (x0 : Nat) (x1 : Int32) (x2 : Int32) (σ : wg_M) : Option (Int32 × wg_M) := if ((x1 >>> (x2 &&& 31)) &&& (1 : Int32)) = (1 : Int32) then (some ((1 : Int32), σ)) else (some ((0 : Int32), σ))
set_option maxRecDepth 20000 in
theorem g_X12_has_e (l : Launch) (E : wg_E)  (x0 : Nat) (x1 : Int32) (x2 : Int32) (σ : wg_M) (z : Int32 × wg_M) (hx0 : wg_t Sm x0 = 14) (h : f_X12_has  x0 x1 x2 σ = some z) : wg_G l E Sm "WornWigsModel" cX12_has 3 (some .boolean) rm_X12_has (some z.1) z.2 0 [some (.ref x0), some (.int x1), some (.int x2)] [] σ := by
  refine wr_iload_n (wg_da dt_X12_has 0 rfl) rfl ?_
  refine wr_iload_n (wg_da dt_X12_has 1 rfl) rfl ?_
  refine wr_ishr (wg_da dt_X12_has 2 rfl) ?_
  refine wr_iconst (1 : Int32) (wg_da dt_X12_has 3 rfl) (by decide) ?_
  refine wr_iand (wg_da dt_X12_has 4 rfl) ?_
  refine wr_iconst (1 : Int32) (wg_da dt_X12_has 5 rfl) (by decide) ?_
  refine wr_icmp_ne 13 (wg_da dt_X12_has 6 rfl) (by decide) h (fun h => ?_) (fun h => ?_)
  · refine wr_iconst (1 : Int32) (wg_da dt_X12_has 7 rfl) (by decide) ?_
    refine wr_goto 14 (wg_da dt_X12_has 8 rfl) (by decide) ?_
    exact wr_zret1 (wg_da dt_X12_has 10 rfl) h
  · refine wr_iconst (0 : Int32) (wg_da dt_X12_has 9 rfl) (by decide) ?_
    exact wr_zret0 (wg_da dt_X12_has 10 rfl) h
theorem m_X12_has (l : Launch) (E : wg_E) (x0 : Nat) (x1 : Int32) (x2 : Int32) (hx0 : wg_t Sm x0 = 14) (σ : wg_M) (q : Int32 × wg_M) (h : f_X12_has x0 x1 x2 σ = some q) : wg_MG l E Sm yX12_has cX12_has 3 (some .boolean) rm_X12_has [.ref x0, .int x1, .int x2] σ (some q.1) q.2 :=
  wg_met [.ref x0, .int x1, .int x2] (plainFor_of_name (by decide)) (Nat.le_of_ble_eq_true rfl) (g_X12_has_e l E x0 x1 x2 σ q hx0 h)
abbrev rm_X12_partOf : Room := { frames := 0, cells := 0, slots := 0, locals := 0 }
def tb_X12_partOf : List (Nat × Instr × Nat) := [(0, .iload_n 1, 1), (1, .ifCond .lt 9, 3), (4, .iload_n 1, 1), (5, .iload_n 2, 1), (6, .idiv, 1), (7, .goto 11, 3), (10, .iload_n 2, 1), (11, .iconst 1, 1), (12, .isub, 1), (13, .iload_n 1, 1), (14, .isub, 1), (15, .iload_n 2, 1), (16, .idiv, 1), (17, .ineg, 1), (18, .ireturn, 1)]
theorem dt_X12_partOf : wg_dc cX12_partOf tb_X12_partOf := by unfold wg_dc; decide +kernel
def f_X12_partOf  (x0 : Nat) (x1 : Int32) (x2 : Int32) (σ : wg_M) : Option (Int32 × wg_M) := if x1 < 0 then (wg_dv ((x2 - (1 : Int32)) - x1) x2 (fun v1 => some (-v1, σ))) else (wg_dv x1 x2 (fun v2 => some (v2, σ)))
set_option maxRecDepth 20000 in
theorem g_X12_partOf_e (l : Launch) (E : wg_E)  (x0 : Nat) (x1 : Int32) (x2 : Int32) (σ : wg_M) (z : Int32 × wg_M) (hx0 : wg_t Sm x0 = 14) (h : f_X12_partOf  x0 x1 x2 σ = some z) : wg_G l E Sm "WornWigsModel" cX12_partOf 3 (some .int) rm_X12_partOf (some z.1) z.2 0 [some (.ref x0), some (.int x1), some (.int x2)] [] σ := by
  refine wr_iload_n (wg_da dt_X12_partOf 0 rfl) rfl ?_
  refine wr_if_lt 10 (wg_da dt_X12_partOf 1 rfl) (by decide) h (fun h => ?_) (fun h => ?_)
  · refine wr_iload_n (wg_da dt_X12_partOf 6 rfl) rfl ?_
    refine wr_iconst (1 : Int32) (wg_da dt_X12_partOf 7 rfl) (by decide) ?_
    refine wr_isub (wg_da dt_X12_partOf 8 rfl) ?_
    refine wr_iload_n (wg_da dt_X12_partOf 9 rfl) rfl ?_
    refine wr_isub (wg_da dt_X12_partOf 10 rfl) ?_
    refine wr_iload_n (wg_da dt_X12_partOf 11 rfl) rfl ?_
    refine wr_idiv (wg_da dt_X12_partOf 12 rfl) h (fun v1 h => ?_)
    refine wr_ineg (wg_da dt_X12_partOf 13 rfl) ?_
    exact wr_iret (wg_da dt_X12_partOf 14 rfl) h
  · refine wr_iload_n (wg_da dt_X12_partOf 2 rfl) rfl ?_
    refine wr_iload_n (wg_da dt_X12_partOf 3 rfl) rfl ?_
    refine wr_idiv (wg_da dt_X12_partOf 4 rfl) h (fun v2 h => ?_)
    refine wr_goto 18 (wg_da dt_X12_partOf 5 rfl) (by decide) ?_
    exact wr_iret (wg_da dt_X12_partOf 14 rfl) h
theorem m_X12_partOf (l : Launch) (E : wg_E) (x0 : Nat) (x1 : Int32) (x2 : Int32) (hx0 : wg_t Sm x0 = 14) (σ : wg_M) (q : Int32 × wg_M) (h : f_X12_partOf x0 x1 x2 σ = some q) : wg_MG l E Sm yX12_partOf cX12_partOf 3 (some .int) rm_X12_partOf [.ref x0, .int x1, .int x2] σ (some q.1) q.2 :=
  wg_met [.ref x0, .int x1, .int x2] (plainFor_of_name (by decide)) (Nat.le_of_ble_eq_true rfl) (g_X12_partOf_e l E x0 x1 x2 σ q hx0 h)
abbrev rm_X12_keepsAhead : Room := { frames := 0, cells := 0, slots := 0, locals := 0 }
def tb_X12_keepsAhead : List (Nat × Instr × Nat) := [(0, .aload_n 0, 1), (1, .getfield 116, 3), (4, .bipush 6, 2), (6, .if_icmp .ne 49, 3), (9, .aload_n 0, 1), (10, .aload_n 0, 1), (11, .getfield 116, 3), (14, .iconst 1, 1), (15, .isub, 1), (16, .putfield 116, 3), (19, .iconst 0, 1), (20, .istore_n 1, 1), (21, .iload_n 1, 1), (22, .sipush 295, 3), (25, .aload_n 0, 1), (26, .getfield 116, 3), (29, .imul, 1), (30, .if_icmp .ge 25, 3), (33, .aload_n 0, 1), (34, .getfield 13, 3), (37, .iload_n 1, 1), (38, .aload_n 0, 1), (39, .getfield 13, 3), (42, .iload_n 1, 1), (43, .sipush 295, 3), (46, .iadd, 1), (47, .iaload, 1), (48, .iastore, 1), (49, .iinc 1 1, 3), (52, .goto (-31), 3), (55, .iconst 0, 1), (56, .istore_n 1, 1), (57, .iload_n 1, 1), (58, .sipush 295, 3), (61, .if_icmp .ge 30, 3), (64, .aload_n 0, 1), (65, .getfield 13, 3), (68, .sipush 295, 3), (71, .aload_n 0, 1), (72, .getfield 116, 3), (75, .imul, 1), (76, .iload_n 1, 1), (77, .iadd, 1), (78, .aload_n 0, 1), (79, .getfield 7, 3), (82, .iload_n 1, 1), (83, .iaload, 1), (84, .iastore, 1), (85, .iinc 1 1, 3), (88, .goto (-31), 3), (91, .aload_n 0, 1), (92, .aload_n 0, 1), (93, .getfield 116, 3), (96, .iconst 1, 1), (97, .iadd, 1), (98, .putfield 116, 3), (101, .return_, 1)]
theorem dt_X12_keepsAhead : wg_dc cX12_keepsAhead tb_X12_keepsAhead := by unfold wg_dc; decide +kernel
def f_X12_keepsAhead_57  : Nat → Nat → Int32 → wg_M → Option (Int32 × wg_M)
  | 0, _, _, _ => none
  | n + 1, x0, x1, σ => if (295 : Int32) ≤ x1 then (wg_st σ x0 3 ((σ x0 3) + (1 : Int32)) (fun s1 => some (0, s1))) else (wg_ga (wg_n Sm (wg_r Sm x0 1)) (σ (wg_r Sm x0 1)) x1 (fun v2 => wg_sa (wg_n Sm (wg_r Sm x0 2)) σ (wg_r Sm x0 2) (((295 : Int32) * (σ x0 3)) + x1) v2 (fun s3 => wg_let (x1 + (1 : Int32)) (fun v4 => f_X12_keepsAhead_57  n x0 v4 s3))))
def f_X12_keepsAhead_55  (x0 : Nat) (σ : wg_M) : Option (Int32 × wg_M) := f_X12_keepsAhead_57  wg_N x0 (0 : Int32) σ
def f_X12_keepsAhead_21  : Nat → Nat → Int32 → wg_M → Option (Int32 × wg_M)
  | 0, _, _, _ => none
  | n + 1, x0, x1, σ => if ((295 : Int32) * (σ x0 3)) ≤ x1 then (f_X12_keepsAhead_55  x0 σ) else (wg_ga (wg_n Sm (wg_r Sm x0 2)) (σ (wg_r Sm x0 2)) (x1 + (295 : Int32)) (fun v1 => wg_sa (wg_n Sm (wg_r Sm x0 2)) σ (wg_r Sm x0 2) x1 v1 (fun s2 => wg_let (x1 + (1 : Int32)) (fun v3 => f_X12_keepsAhead_21  n x0 v3 s2))))
def f_X12_keepsAhead  (x0 : Nat) (σ : wg_M) : Option (Int32 × wg_M) := if (σ x0 3) = (6 : Int32) then (wg_st σ x0 3 ((σ x0 3) - (1 : Int32)) (fun s1 => f_X12_keepsAhead_21  wg_N x0 (0 : Int32) s1)) else (f_X12_keepsAhead_55  x0 σ)
set_option maxRecDepth 20000 in
theorem g_X12_keepsAhead_57 (l : Launch) (E : wg_E)  (z : Int32 × wg_M) : ∀ (n : Nat) (x0 : Nat) (x1 : Int32) (σ : wg_M) (hx0 : wg_t Sm x0 = 14) (h : f_X12_keepsAhead_57  n x0 x1 σ = some z), wg_G l E Sm "WornWigsModel" cX12_keepsAhead 2 none rm_X12_keepsAhead none z.2 57 [some (.ref x0), some (.int x1)] [] σ := by
  intro n
  induction n with
  | zero => intro x0 x1 σ hx0 h; cases h
  | succ n ih =>
    intro x0 x1 σ hx0 h
    refine wr_iload_n (wg_da dt_X12_keepsAhead 32 rfl) rfl ?_
    refine wr_sipush (295 : Int32) (wg_da dt_X12_keepsAhead 33 rfl) (by decide) ?_
    refine wr_icmp_ge 91 (wg_da dt_X12_keepsAhead 34 rfl) (by decide) h (fun h => ?_) (fun h => ?_)
    · refine wr_aload_n (wg_da dt_X12_keepsAhead 50 rfl) rfl ?_
      refine wr_aload_n (wg_da dt_X12_keepsAhead 51 rfl) rfl ?_
      refine wr_getI wf_X12_116 (wg_da dt_X12_keepsAhead 52 rfl) hx0 ?_
      refine wr_iconst (1 : Int32) (wg_da dt_X12_keepsAhead 53 rfl) (by decide) ?_
      refine wr_iadd (wg_da dt_X12_keepsAhead 54 rfl) ?_
      refine wr_putI wfp_X12_116 (wg_da dt_X12_keepsAhead 55 rfl) hx0 h (fun s1 h => ?_)
      exact wr_vret (wg_da dt_X12_keepsAhead 56 rfl) h
    · refine wr_aload_n (wg_da dt_X12_keepsAhead 35 rfl) rfl ?_
      refine wr_getR wf_X12_13 (wg_da dt_X12_keepsAhead 36 rfl) hx0 ?_
      refine wr_sipush (295 : Int32) (wg_da dt_X12_keepsAhead 37 rfl) (by decide) ?_
      refine wr_aload_n (wg_da dt_X12_keepsAhead 38 rfl) rfl ?_
      refine wr_getI wf_X12_116 (wg_da dt_X12_keepsAhead 39 rfl) hx0 ?_
      refine wr_imul (wg_da dt_X12_keepsAhead 40 rfl) ?_
      refine wr_iload_n (wg_da dt_X12_keepsAhead 41 rfl) rfl ?_
      refine wr_iadd (wg_da dt_X12_keepsAhead 42 rfl) ?_
      refine wr_aload_n (wg_da dt_X12_keepsAhead 43 rfl) rfl ?_
      refine wr_getR wf_X12_7 (wg_da dt_X12_keepsAhead 44 rfl) hx0 ?_
      refine wr_iload_n (wg_da dt_X12_keepsAhead 45 rfl) rfl ?_
      refine wr_iald (wg_da dt_X12_keepsAhead 46 rfl) (wg_ty Sm_ok 12 1 0 hx0 rfl (by decide)).2 h (fun v2 h => ?_)
      refine wr_iast (wg_da dt_X12_keepsAhead 47 rfl) (wg_ty Sm_ok 12 2 0 hx0 rfl (by decide)).2 h (fun s3 h => ?_)
      refine wr_iinc (c0 := (1 : Int32)) (wg_da dt_X12_keepsAhead 48 rfl) rfl (by decide) (by decide) h (fun v4 h => ?_)
      refine wr_goto 57 (wg_da dt_X12_keepsAhead 49 rfl) (by decide) ?_
      exact wr_wk [true, true] (ih x0 v4 s3 hx0 h)
set_option maxRecDepth 20000 in
theorem g_X12_keepsAhead_55 (l : Launch) (E : wg_E)  (x0 : Nat) (σ : wg_M) (z : Int32 × wg_M) (hx0 : wg_t Sm x0 = 14) (h : f_X12_keepsAhead_55  x0 σ = some z) : wg_G l E Sm "WornWigsModel" cX12_keepsAhead 2 none rm_X12_keepsAhead none z.2 55 [some (.ref x0), none] [] σ := by
  refine wr_iconst (0 : Int32) (wg_da dt_X12_keepsAhead 30 rfl) (by decide) ?_
  refine wr_istore_n (wg_da dt_X12_keepsAhead 31 rfl) (by decide) ?_
  exact wr_wk [true, true] (g_X12_keepsAhead_57 l E  _  wg_N x0 (0 : Int32) σ hx0 h)
set_option maxRecDepth 20000 in
theorem g_X12_keepsAhead_21 (l : Launch) (E : wg_E)  (z : Int32 × wg_M) : ∀ (n : Nat) (x0 : Nat) (x1 : Int32) (σ : wg_M) (hx0 : wg_t Sm x0 = 14) (h : f_X12_keepsAhead_21  n x0 x1 σ = some z), wg_G l E Sm "WornWigsModel" cX12_keepsAhead 2 none rm_X12_keepsAhead none z.2 21 [some (.ref x0), some (.int x1)] [] σ := by
  intro n
  induction n with
  | zero => intro x0 x1 σ hx0 h; cases h
  | succ n ih =>
    intro x0 x1 σ hx0 h
    refine wr_iload_n (wg_da dt_X12_keepsAhead 12 rfl) rfl ?_
    refine wr_sipush (295 : Int32) (wg_da dt_X12_keepsAhead 13 rfl) (by decide) ?_
    refine wr_aload_n (wg_da dt_X12_keepsAhead 14 rfl) rfl ?_
    refine wr_getI wf_X12_116 (wg_da dt_X12_keepsAhead 15 rfl) hx0 ?_
    refine wr_imul (wg_da dt_X12_keepsAhead 16 rfl) ?_
    refine wr_icmp_ge 55 (wg_da dt_X12_keepsAhead 17 rfl) (by decide) h (fun h => ?_) (fun h => ?_)
    · exact wr_wk [true, false] (g_X12_keepsAhead_55 l E  x0 σ _ hx0  h)
    · refine wr_aload_n (wg_da dt_X12_keepsAhead 18 rfl) rfl ?_
      refine wr_getR wf_X12_13 (wg_da dt_X12_keepsAhead 19 rfl) hx0 ?_
      refine wr_iload_n (wg_da dt_X12_keepsAhead 20 rfl) rfl ?_
      refine wr_aload_n (wg_da dt_X12_keepsAhead 21 rfl) rfl ?_
      refine wr_getR wf_X12_13 (wg_da dt_X12_keepsAhead 22 rfl) hx0 ?_
      refine wr_iload_n (wg_da dt_X12_keepsAhead 23 rfl) rfl ?_
      refine wr_sipush (295 : Int32) (wg_da dt_X12_keepsAhead 24 rfl) (by decide) ?_
      refine wr_iadd (wg_da dt_X12_keepsAhead 25 rfl) ?_
      refine wr_iald (wg_da dt_X12_keepsAhead 26 rfl) (wg_ty Sm_ok 12 2 0 hx0 rfl (by decide)).2 h (fun v1 h => ?_)
      refine wr_iast (wg_da dt_X12_keepsAhead 27 rfl) (wg_ty Sm_ok 12 2 0 hx0 rfl (by decide)).2 h (fun s2 h => ?_)
      refine wr_iinc (c0 := (1 : Int32)) (wg_da dt_X12_keepsAhead 28 rfl) rfl (by decide) (by decide) h (fun v3 h => ?_)
      refine wr_goto 21 (wg_da dt_X12_keepsAhead 29 rfl) (by decide) ?_
      exact wr_wk [true, true] (ih x0 v3 s2 hx0 h)
set_option maxRecDepth 20000 in
theorem g_X12_keepsAhead_e (l : Launch) (E : wg_E)  (x0 : Nat) (σ : wg_M) (z : Int32 × wg_M) (hx0 : wg_t Sm x0 = 14) (h : f_X12_keepsAhead  x0 σ = some z) : wg_G l E Sm "WornWigsModel" cX12_keepsAhead 2 none rm_X12_keepsAhead none z.2 0 [some (.ref x0), none] [] σ := by
  refine wr_aload_n (wg_da dt_X12_keepsAhead 0 rfl) rfl ?_
  refine wr_getI wf_X12_116 (wg_da dt_X12_keepsAhead 1 rfl) hx0 ?_
  refine wr_bipush (6 : Int32) (wg_da dt_X12_keepsAhead 2 rfl) (by decide) ?_
  refine wr_icmp_ne 55 (wg_da dt_X12_keepsAhead 3 rfl) (by decide) h (fun h => ?_) (fun h => ?_)
  · refine wr_aload_n (wg_da dt_X12_keepsAhead 4 rfl) rfl ?_
    refine wr_aload_n (wg_da dt_X12_keepsAhead 5 rfl) rfl ?_
    refine wr_getI wf_X12_116 (wg_da dt_X12_keepsAhead 6 rfl) hx0 ?_
    refine wr_iconst (1 : Int32) (wg_da dt_X12_keepsAhead 7 rfl) (by decide) ?_
    refine wr_isub (wg_da dt_X12_keepsAhead 8 rfl) ?_
    refine wr_putI wfp_X12_116 (wg_da dt_X12_keepsAhead 9 rfl) hx0 h (fun s1 h => ?_)
    refine wr_iconst (0 : Int32) (wg_da dt_X12_keepsAhead 10 rfl) (by decide) ?_
    refine wr_istore_n (wg_da dt_X12_keepsAhead 11 rfl) (by decide) ?_
    exact wr_wk [true, true] (g_X12_keepsAhead_21 l E  _  wg_N x0 (0 : Int32) s1 hx0 h)
  · exact wr_wk [true, false] (g_X12_keepsAhead_55 l E  x0 σ _ hx0  h)
theorem m_X12_keepsAhead (l : Launch) (E : wg_E) (x0 : Nat) (hx0 : wg_t Sm x0 = 14) (σ : wg_M) (q : Int32 × wg_M) (h : f_X12_keepsAhead x0 σ = some q) : wg_MG l E Sm yX12_keepsAhead cX12_keepsAhead 2 none rm_X12_keepsAhead [.ref x0] σ none q.2 :=
  wg_met [.ref x0] (plainFor_of_name (by decide)) (Nat.le_of_ble_eq_true rfl) (g_X12_keepsAhead_e l E x0 σ q hx0 h)
abbrev rm_X12_undo : Room := { frames := 0, cells := 0, slots := 0, locals := 0 }
def tb_X12_undo : List (Nat × Instr × Nat) := [(0, .aload_n 0, 1), (1, .iconst 0, 1), (2, .putfield 113, 3), (5, .aload_n 0, 1), (6, .getfield 116, 3), (9, .ifCond .ne 5, 3), (12, .iconst 0, 1), (13, .ireturn, 1), (14, .aload_n 0, 1), (15, .aload_n 0, 1), (16, .getfield 116, 3), (19, .iconst 1, 1), (20, .isub, 1), (21, .putfield 116, 3), (24, .iconst 0, 1), (25, .istore_n 1, 1), (26, .iload_n 1, 1), (27, .sipush 295, 3), (30, .if_icmp .ge 30, 3), (33, .aload_n 0, 1), (34, .getfield 7, 3), (37, .iload_n 1, 1), (38, .aload_n 0, 1), (39, .getfield 13, 3), (42, .sipush 295, 3), (45, .aload_n 0, 1), (46, .getfield 116, 3), (49, .imul, 1), (50, .iload_n 1, 1), (51, .iadd, 1), (52, .iaload, 1), (53, .iastore, 1), (54, .iinc 1 1, 3), (57, .goto (-31), 3), (60, .iconst 1, 1), (61, .ireturn, 1)]
theorem dt_X12_undo : wg_dc cX12_undo tb_X12_undo := by unfold wg_dc; decide +kernel
def f_X12_undo_26  : Nat → Nat → Int32 → wg_M → Option (Int32 × wg_M)
  | 0, _, _, _ => none
  | n + 1, x0, x1, σ => if (295 : Int32) ≤ x1 then (some ((1 : Int32), σ)) else (wg_ga (wg_n Sm (wg_r Sm x0 2)) (σ (wg_r Sm x0 2)) (((295 : Int32) * (σ x0 3)) + x1) (fun v1 => wg_sa (wg_n Sm (wg_r Sm x0 1)) σ (wg_r Sm x0 1) x1 v1 (fun s2 => wg_let (x1 + (1 : Int32)) (fun v3 => f_X12_undo_26  n x0 v3 s2))))
def f_X12_undo  (x0 : Nat) (σ : wg_M) : Option (Int32 × wg_M) := wg_st σ x0 0 (0 : Int32) (fun s1 => if (s1 x0 3) = 0 then (some ((0 : Int32), s1)) else (wg_st s1 x0 3 ((s1 x0 3) - (1 : Int32)) (fun s2 => f_X12_undo_26  wg_N x0 (0 : Int32) s2)))
set_option maxRecDepth 20000 in
theorem g_X12_undo_26 (l : Launch) (E : wg_E)  (z : Int32 × wg_M) : ∀ (n : Nat) (x0 : Nat) (x1 : Int32) (σ : wg_M) (hx0 : wg_t Sm x0 = 14) (h : f_X12_undo_26  n x0 x1 σ = some z), wg_G l E Sm "WornWigsModel" cX12_undo 2 (some .boolean) rm_X12_undo (some z.1) z.2 26 [some (.ref x0), some (.int x1)] [] σ := by
  intro n
  induction n with
  | zero => intro x0 x1 σ hx0 h; cases h
  | succ n ih =>
    intro x0 x1 σ hx0 h
    refine wr_iload_n (wg_da dt_X12_undo 16 rfl) rfl ?_
    refine wr_sipush (295 : Int32) (wg_da dt_X12_undo 17 rfl) (by decide) ?_
    refine wr_icmp_ge 60 (wg_da dt_X12_undo 18 rfl) (by decide) h (fun h => ?_) (fun h => ?_)
    · refine wr_iconst (1 : Int32) (wg_da dt_X12_undo 34 rfl) (by decide) ?_
      exact wr_zret1 (wg_da dt_X12_undo 35 rfl) h
    · refine wr_aload_n (wg_da dt_X12_undo 19 rfl) rfl ?_
      refine wr_getR wf_X12_7 (wg_da dt_X12_undo 20 rfl) hx0 ?_
      refine wr_iload_n (wg_da dt_X12_undo 21 rfl) rfl ?_
      refine wr_aload_n (wg_da dt_X12_undo 22 rfl) rfl ?_
      refine wr_getR wf_X12_13 (wg_da dt_X12_undo 23 rfl) hx0 ?_
      refine wr_sipush (295 : Int32) (wg_da dt_X12_undo 24 rfl) (by decide) ?_
      refine wr_aload_n (wg_da dt_X12_undo 25 rfl) rfl ?_
      refine wr_getI wf_X12_116 (wg_da dt_X12_undo 26 rfl) hx0 ?_
      refine wr_imul (wg_da dt_X12_undo 27 rfl) ?_
      refine wr_iload_n (wg_da dt_X12_undo 28 rfl) rfl ?_
      refine wr_iadd (wg_da dt_X12_undo 29 rfl) ?_
      refine wr_iald (wg_da dt_X12_undo 30 rfl) (wg_ty Sm_ok 12 2 0 hx0 rfl (by decide)).2 h (fun v1 h => ?_)
      refine wr_iast (wg_da dt_X12_undo 31 rfl) (wg_ty Sm_ok 12 1 0 hx0 rfl (by decide)).2 h (fun s2 h => ?_)
      refine wr_iinc (c0 := (1 : Int32)) (wg_da dt_X12_undo 32 rfl) rfl (by decide) (by decide) h (fun v3 h => ?_)
      refine wr_goto 26 (wg_da dt_X12_undo 33 rfl) (by decide) ?_
      exact wr_wk [true, true] (ih x0 v3 s2 hx0 h)
set_option maxRecDepth 20000 in
theorem g_X12_undo_e (l : Launch) (E : wg_E)  (x0 : Nat) (σ : wg_M) (z : Int32 × wg_M) (hx0 : wg_t Sm x0 = 14) (h : f_X12_undo  x0 σ = some z) : wg_G l E Sm "WornWigsModel" cX12_undo 2 (some .boolean) rm_X12_undo (some z.1) z.2 0 [some (.ref x0), none] [] σ := by
  refine wr_aload_n (wg_da dt_X12_undo 0 rfl) rfl ?_
  refine wr_iconst (0 : Int32) (wg_da dt_X12_undo 1 rfl) (by decide) ?_
  refine wr_putI wfp_X12_113 (wg_da dt_X12_undo 2 rfl) hx0 h (fun s1 h => ?_)
  refine wr_aload_n (wg_da dt_X12_undo 3 rfl) rfl ?_
  refine wr_getI wf_X12_116 (wg_da dt_X12_undo 4 rfl) hx0 ?_
  refine wr_if_ne 14 (wg_da dt_X12_undo 5 rfl) (by decide) h (fun h => ?_) (fun h => ?_)
  · refine wr_iconst (0 : Int32) (wg_da dt_X12_undo 6 rfl) (by decide) ?_
    exact wr_zret0 (wg_da dt_X12_undo 7 rfl) h
  · refine wr_aload_n (wg_da dt_X12_undo 8 rfl) rfl ?_
    refine wr_aload_n (wg_da dt_X12_undo 9 rfl) rfl ?_
    refine wr_getI wf_X12_116 (wg_da dt_X12_undo 10 rfl) hx0 ?_
    refine wr_iconst (1 : Int32) (wg_da dt_X12_undo 11 rfl) (by decide) ?_
    refine wr_isub (wg_da dt_X12_undo 12 rfl) ?_
    refine wr_putI wfp_X12_116 (wg_da dt_X12_undo 13 rfl) hx0 h (fun s2 h => ?_)
    refine wr_iconst (0 : Int32) (wg_da dt_X12_undo 14 rfl) (by decide) ?_
    refine wr_istore_n (wg_da dt_X12_undo 15 rfl) (by decide) ?_
    exact wr_wk [true, true] (g_X12_undo_26 l E  _  wg_N x0 (0 : Int32) s2 hx0 h)
theorem m_X12_undo (l : Launch) (E : wg_E) (x0 : Nat) (hx0 : wg_t Sm x0 = 14) (σ : wg_M) (q : Int32 × wg_M) (h : f_X12_undo x0 σ = some q) : wg_MG l E Sm yX12_undo cX12_undo 2 (some .boolean) rm_X12_undo [.ref x0] σ (some q.1) q.2 :=
  wg_met [.ref x0] (plainFor_of_name (by decide)) (Nat.le_of_ble_eq_true rfl) (g_X12_undo_e l E x0 σ q hx0 h)
abbrev rm_X12_thinks : Room := { frames := 0, cells := 0, slots := 0, locals := 0 }
def tb_X12_thinks : List (Nat × Instr × Nat) := [(0, .iconst 0, 1), (1, .istore_n 1, 1), (2, .iload_n 1, 1), (3, .sipush 295, 3), (6, .if_icmp .ge 21, 3), (9, .aload_n 0, 1), (10, .getfield 16, 3), (13, .iload_n 1, 1), (14, .aload_n 0, 1), (15, .getfield 7, 3), (18, .iload_n 1, 1), (19, .iaload, 1), (20, .iastore, 1), (21, .iinc 1 1, 3), (24, .goto (-22), 3), (27, .aload_n 0, 1), (28, .iconst 1, 1), (29, .putfield 119, 3), (32, .return_, 1)]
theorem dt_X12_thinks : wg_dc cX12_thinks tb_X12_thinks := by unfold wg_dc; decide +kernel
def f_X12_thinks_2  : Nat → Nat → Int32 → wg_M → Option (Int32 × wg_M)
  | 0, _, _, _ => none
  | n + 1, x0, x1, σ => if (295 : Int32) ≤ x1 then (wg_bz (1 : Int32) (wg_st σ x0 5 (1 : Int32) (fun s1 => some (0, s1)))) else (wg_ga (wg_n Sm (wg_r Sm x0 1)) (σ (wg_r Sm x0 1)) x1 (fun v2 => wg_sa (wg_n Sm (wg_r Sm x0 4)) σ (wg_r Sm x0 4) x1 v2 (fun s3 => wg_let (x1 + (1 : Int32)) (fun v4 => f_X12_thinks_2  n x0 v4 s3))))
def f_X12_thinks  (x0 : Nat) (σ : wg_M) : Option (Int32 × wg_M) := f_X12_thinks_2  wg_N x0 (0 : Int32) σ
set_option maxRecDepth 20000 in
theorem g_X12_thinks_2 (l : Launch) (E : wg_E)  (z : Int32 × wg_M) : ∀ (n : Nat) (x0 : Nat) (x1 : Int32) (σ : wg_M) (hx0 : wg_t Sm x0 = 14) (h : f_X12_thinks_2  n x0 x1 σ = some z), wg_G l E Sm "WornWigsModel" cX12_thinks 2 none rm_X12_thinks none z.2 2 [some (.ref x0), some (.int x1)] [] σ := by
  intro n
  induction n with
  | zero => intro x0 x1 σ hx0 h; cases h
  | succ n ih =>
    intro x0 x1 σ hx0 h
    refine wr_iload_n (wg_da dt_X12_thinks 2 rfl) rfl ?_
    refine wr_sipush (295 : Int32) (wg_da dt_X12_thinks 3 rfl) (by decide) ?_
    refine wr_icmp_ge 27 (wg_da dt_X12_thinks 4 rfl) (by decide) h (fun h => ?_) (fun h => ?_)
    · refine wr_aload_n (wg_da dt_X12_thinks 15 rfl) rfl ?_
      refine wr_iconst (1 : Int32) (wg_da dt_X12_thinks 16 rfl) (by decide) ?_
      refine wr_putZ wfp_X12_119 (wg_da dt_X12_thinks 17 rfl) hx0 h (fun s1 h => ?_)
      exact wr_vret (wg_da dt_X12_thinks 18 rfl) h
    · refine wr_aload_n (wg_da dt_X12_thinks 5 rfl) rfl ?_
      refine wr_getR wf_X12_16 (wg_da dt_X12_thinks 6 rfl) hx0 ?_
      refine wr_iload_n (wg_da dt_X12_thinks 7 rfl) rfl ?_
      refine wr_aload_n (wg_da dt_X12_thinks 8 rfl) rfl ?_
      refine wr_getR wf_X12_7 (wg_da dt_X12_thinks 9 rfl) hx0 ?_
      refine wr_iload_n (wg_da dt_X12_thinks 10 rfl) rfl ?_
      refine wr_iald (wg_da dt_X12_thinks 11 rfl) (wg_ty Sm_ok 12 1 0 hx0 rfl (by decide)).2 h (fun v2 h => ?_)
      refine wr_iast (wg_da dt_X12_thinks 12 rfl) (wg_ty Sm_ok 12 4 0 hx0 rfl (by decide)).2 h (fun s3 h => ?_)
      refine wr_iinc (c0 := (1 : Int32)) (wg_da dt_X12_thinks 13 rfl) rfl (by decide) (by decide) h (fun v4 h => ?_)
      refine wr_goto 2 (wg_da dt_X12_thinks 14 rfl) (by decide) ?_
      exact wr_wk [true, true] (ih x0 v4 s3 hx0 h)
set_option maxRecDepth 20000 in
theorem g_X12_thinks_e (l : Launch) (E : wg_E)  (x0 : Nat) (σ : wg_M) (z : Int32 × wg_M) (hx0 : wg_t Sm x0 = 14) (h : f_X12_thinks  x0 σ = some z) : wg_G l E Sm "WornWigsModel" cX12_thinks 2 none rm_X12_thinks none z.2 0 [some (.ref x0), none] [] σ := by
  refine wr_iconst (0 : Int32) (wg_da dt_X12_thinks 0 rfl) (by decide) ?_
  refine wr_istore_n (wg_da dt_X12_thinks 1 rfl) (by decide) ?_
  exact wr_wk [true, true] (g_X12_thinks_2 l E  _  wg_N x0 (0 : Int32) σ hx0 h)
theorem m_X12_thinks (l : Launch) (E : wg_E) (x0 : Nat) (hx0 : wg_t Sm x0 = 14) (σ : wg_M) (q : Int32 × wg_M) (h : f_X12_thinks x0 σ = some q) : wg_MG l E Sm yX12_thinks cX12_thinks 2 none rm_X12_thinks [.ref x0] σ none q.2 :=
  wg_met [.ref x0] (plainFor_of_name (by decide)) (Nat.le_of_ble_eq_true rfl) (g_X12_thinks_e l E x0 σ q hx0 h)
abbrev rm_X12_endsThought : Room := { frames := 0, cells := 0, slots := 0, locals := 0 }
def tb_X12_endsThought : List (Nat × Instr × Nat) := [(0, .iconst 0, 1), (1, .istore_n 1, 1), (2, .iload_n 1, 1), (3, .sipush 295, 3), (6, .if_icmp .ge 21, 3), (9, .aload_n 0, 1), (10, .getfield 7, 3), (13, .iload_n 1, 1), (14, .aload_n 0, 1), (15, .getfield 16, 3), (18, .iload_n 1, 1), (19, .iaload, 1), (20, .iastore, 1), (21, .iinc 1 1, 3), (24, .goto (-22), 3), (27, .aload_n 0, 1), (28, .iconst 0, 1), (29, .putfield 119, 3), (32, .return_, 1)]
theorem dt_X12_endsThought : wg_dc cX12_endsThought tb_X12_endsThought := by unfold wg_dc; decide +kernel
def f_X12_endsThought_2  : Nat → Nat → Int32 → wg_M → Option (Int32 × wg_M)
  | 0, _, _, _ => none
  | n + 1, x0, x1, σ => if (295 : Int32) ≤ x1 then (wg_bz (0 : Int32) (wg_st σ x0 5 (0 : Int32) (fun s1 => some (0, s1)))) else (wg_ga (wg_n Sm (wg_r Sm x0 4)) (σ (wg_r Sm x0 4)) x1 (fun v2 => wg_sa (wg_n Sm (wg_r Sm x0 1)) σ (wg_r Sm x0 1) x1 v2 (fun s3 => wg_let (x1 + (1 : Int32)) (fun v4 => f_X12_endsThought_2  n x0 v4 s3))))
def f_X12_endsThought  (x0 : Nat) (σ : wg_M) : Option (Int32 × wg_M) := f_X12_endsThought_2  wg_N x0 (0 : Int32) σ
set_option maxRecDepth 20000 in
theorem g_X12_endsThought_2 (l : Launch) (E : wg_E)  (z : Int32 × wg_M) : ∀ (n : Nat) (x0 : Nat) (x1 : Int32) (σ : wg_M) (hx0 : wg_t Sm x0 = 14) (h : f_X12_endsThought_2  n x0 x1 σ = some z), wg_G l E Sm "WornWigsModel" cX12_endsThought 2 none rm_X12_endsThought none z.2 2 [some (.ref x0), some (.int x1)] [] σ := by
  intro n
  induction n with
  | zero => intro x0 x1 σ hx0 h; cases h
  | succ n ih =>
    intro x0 x1 σ hx0 h
    refine wr_iload_n (wg_da dt_X12_endsThought 2 rfl) rfl ?_
    refine wr_sipush (295 : Int32) (wg_da dt_X12_endsThought 3 rfl) (by decide) ?_
    refine wr_icmp_ge 27 (wg_da dt_X12_endsThought 4 rfl) (by decide) h (fun h => ?_) (fun h => ?_)
    · refine wr_aload_n (wg_da dt_X12_endsThought 15 rfl) rfl ?_
      refine wr_iconst (0 : Int32) (wg_da dt_X12_endsThought 16 rfl) (by decide) ?_
      refine wr_putZ wfp_X12_119 (wg_da dt_X12_endsThought 17 rfl) hx0 h (fun s1 h => ?_)
      exact wr_vret (wg_da dt_X12_endsThought 18 rfl) h
    · refine wr_aload_n (wg_da dt_X12_endsThought 5 rfl) rfl ?_
      refine wr_getR wf_X12_7 (wg_da dt_X12_endsThought 6 rfl) hx0 ?_
      refine wr_iload_n (wg_da dt_X12_endsThought 7 rfl) rfl ?_
      refine wr_aload_n (wg_da dt_X12_endsThought 8 rfl) rfl ?_
      refine wr_getR wf_X12_16 (wg_da dt_X12_endsThought 9 rfl) hx0 ?_
      refine wr_iload_n (wg_da dt_X12_endsThought 10 rfl) rfl ?_
      refine wr_iald (wg_da dt_X12_endsThought 11 rfl) (wg_ty Sm_ok 12 4 0 hx0 rfl (by decide)).2 h (fun v2 h => ?_)
      refine wr_iast (wg_da dt_X12_endsThought 12 rfl) (wg_ty Sm_ok 12 1 0 hx0 rfl (by decide)).2 h (fun s3 h => ?_)
      refine wr_iinc (c0 := (1 : Int32)) (wg_da dt_X12_endsThought 13 rfl) rfl (by decide) (by decide) h (fun v4 h => ?_)
      refine wr_goto 2 (wg_da dt_X12_endsThought 14 rfl) (by decide) ?_
      exact wr_wk [true, true] (ih x0 v4 s3 hx0 h)
set_option maxRecDepth 20000 in
theorem g_X12_endsThought_e (l : Launch) (E : wg_E)  (x0 : Nat) (σ : wg_M) (z : Int32 × wg_M) (hx0 : wg_t Sm x0 = 14) (h : f_X12_endsThought  x0 σ = some z) : wg_G l E Sm "WornWigsModel" cX12_endsThought 2 none rm_X12_endsThought none z.2 0 [some (.ref x0), none] [] σ := by
  refine wr_iconst (0 : Int32) (wg_da dt_X12_endsThought 0 rfl) (by decide) ?_
  refine wr_istore_n (wg_da dt_X12_endsThought 1 rfl) (by decide) ?_
  exact wr_wk [true, true] (g_X12_endsThought_2 l E  _  wg_N x0 (0 : Int32) σ hx0 h)
theorem m_X12_endsThought (l : Launch) (E : wg_E) (x0 : Nat) (hx0 : wg_t Sm x0 = 14) (σ : wg_M) (q : Int32 × wg_M) (h : f_X12_endsThought x0 σ = some q) : wg_MG l E Sm yX12_endsThought cX12_endsThought 2 none rm_X12_endsThought [.ref x0] σ none q.2 :=
  wg_met [.ref x0] (plainFor_of_name (by decide)) (Nat.le_of_ble_eq_true rfl) (g_X12_endsThought_e l E x0 σ q hx0 h)
abbrev rm_X12_state : Room := { frames := 0, cells := 0, slots := 0, locals := 0 }
def tb_X12_state : List (Nat × Instr × Nat) := [(0, .aload_n 0, 1), (1, .iconst 0, 1), (2, .putfield 113, 3), (5, .aload_n 0, 1), (6, .getfield 7, 3), (9, .iconst 1, 1), (10, .iaload, 1), (11, .istore_n 2, 1), (12, .aload_n 0, 1), (13, .getfield 7, 3), (16, .iconst 1, 1), (17, .iload_n 1, 1), (18, .iastore, 1), (19, .aload_n 0, 1), (20, .iconst 0, 1), (21, .putfield 116, 3), (24, .iload_n 2, 1), (25, .ireturn, 1)]
theorem dt_X12_state : wg_dc cX12_state tb_X12_state := by unfold wg_dc; decide +kernel
def f_X12_state  (x0 : Nat) (x1 : Int32) (σ : wg_M) : Option (Int32 × wg_M) := wg_st σ x0 0 (0 : Int32) (fun s1 => wg_ga (wg_n Sm (wg_r Sm x0 1)) (s1 (wg_r Sm x0 1)) (1 : Int32) (fun v2 => wg_sa (wg_n Sm (wg_r Sm x0 1)) s1 (wg_r Sm x0 1) (1 : Int32) x1 (fun s3 => wg_st s3 x0 3 (0 : Int32) (fun s4 => some (v2, s4)))))
set_option maxRecDepth 20000 in
theorem g_X12_state_e (l : Launch) (E : wg_E)  (x0 : Nat) (x1 : Int32) (σ : wg_M) (z : Int32 × wg_M) (hx0 : wg_t Sm x0 = 14) (h : f_X12_state  x0 x1 σ = some z) : wg_G l E Sm "WornWigsModel" cX12_state 3 (some .int) rm_X12_state (some z.1) z.2 0 [some (.ref x0), some (.int x1), none] [] σ := by
  refine wr_aload_n (wg_da dt_X12_state 0 rfl) rfl ?_
  refine wr_iconst (0 : Int32) (wg_da dt_X12_state 1 rfl) (by decide) ?_
  refine wr_putI wfp_X12_113 (wg_da dt_X12_state 2 rfl) hx0 h (fun s1 h => ?_)
  refine wr_aload_n (wg_da dt_X12_state 3 rfl) rfl ?_
  refine wr_getR wf_X12_7 (wg_da dt_X12_state 4 rfl) hx0 ?_
  refine wr_iconst (1 : Int32) (wg_da dt_X12_state 5 rfl) (by decide) ?_
  refine wr_iald (wg_da dt_X12_state 6 rfl) (wg_ty Sm_ok 12 1 0 hx0 rfl (by decide)).2 h (fun v2 h => ?_)
  refine wr_istore_n (wg_da dt_X12_state 7 rfl) (by decide) ?_
  refine wr_aload_n (wg_da dt_X12_state 8 rfl) rfl ?_
  refine wr_getR wf_X12_7 (wg_da dt_X12_state 9 rfl) hx0 ?_
  refine wr_iconst (1 : Int32) (wg_da dt_X12_state 10 rfl) (by decide) ?_
  refine wr_iload_n (wg_da dt_X12_state 11 rfl) rfl ?_
  refine wr_iast (wg_da dt_X12_state 12 rfl) (wg_ty Sm_ok 12 1 0 hx0 rfl (by decide)).2 h (fun s3 h => ?_)
  refine wr_aload_n (wg_da dt_X12_state 13 rfl) rfl ?_
  refine wr_iconst (0 : Int32) (wg_da dt_X12_state 14 rfl) (by decide) ?_
  refine wr_putI wfp_X12_116 (wg_da dt_X12_state 15 rfl) hx0 h (fun s4 h => ?_)
  refine wr_iload_n (wg_da dt_X12_state 16 rfl) rfl ?_
  exact wr_iret (wg_da dt_X12_state 17 rfl) h
theorem m_X12_state (l : Launch) (E : wg_E) (x0 : Nat) (x1 : Int32) (hx0 : wg_t Sm x0 = 14) (σ : wg_M) (q : Int32 × wg_M) (h : f_X12_state x0 x1 σ = some q) : wg_MG l E Sm yX12_state cX12_state 3 (some .int) rm_X12_state [.ref x0, .int x1] σ (some q.1) q.2 :=
  wg_met [.ref x0, .int x1] (plainFor_of_name (by decide)) (Nat.le_of_ble_eq_true rfl) (g_X12_state_e l E x0 x1 σ q hx0 h)
abbrev rm_X12_draw : Room := { frames := 0, cells := 0, slots := 0, locals := 0 }
def tb_X12_draw : List (Nat × Instr × Nat) := [(0, .aload_n 0, 1), (1, .getfield 7, 3), (4, .iconst 1, 1), (5, .ldc 123, 2), (7, .aload_n 0, 1), (8, .getfield 7, 3), (11, .iconst 1, 1), (12, .iaload, 1), (13, .imul, 1), (14, .ldc 124, 2), (16, .iadd, 1), (17, .iastore, 1), (18, .aload_n 0, 1), (19, .getfield 7, 3), (22, .iconst 1, 1), (23, .iaload, 1), (24, .bipush 8, 2), (26, .iushr, 1), (27, .iload_n 1, 1), (28, .irem, 1), (29, .ireturn, 1)]
theorem dt_X12_draw : wg_dc cX12_draw tb_X12_draw := by unfold wg_dc; decide +kernel
def f_X12_draw  (x0 : Nat) (x1 : Int32) (σ : wg_M) : Option (Int32 × wg_M) := wg_ga (wg_n Sm (wg_r Sm x0 1)) (σ (wg_r Sm x0 1)) (1 : Int32) (fun v1 => wg_sa (wg_n Sm (wg_r Sm x0 1)) σ (wg_r Sm x0 1) (1 : Int32) (((1664525 : Int32) * v1) + (1013904223 : Int32)) (fun s2 => wg_ga (wg_n Sm (wg_r Sm x0 1)) (s2 (wg_r Sm x0 1)) (1 : Int32) (fun v3 => wg_rm (wg_ush v3 (8 : Int32)) x1 (fun v4 => some (v4, s2)))))
set_option maxRecDepth 20000 in
theorem g_X12_draw_e (l : Launch) (E : wg_E)  (x0 : Nat) (x1 : Int32) (σ : wg_M) (z : Int32 × wg_M) (hx0 : wg_t Sm x0 = 14) (h : f_X12_draw  x0 x1 σ = some z) : wg_G l E Sm "WornWigsModel" cX12_draw 2 (some .int) rm_X12_draw (some z.1) z.2 0 [some (.ref x0), some (.int x1)] [] σ := by
  refine wr_aload_n (wg_da dt_X12_draw 0 rfl) rfl ?_
  refine wr_getR wf_X12_7 (wg_da dt_X12_draw 1 rfl) hx0 ?_
  refine wr_iconst (1 : Int32) (wg_da dt_X12_draw 2 rfl) (by decide) ?_
  refine wr_ldc (v := (1664525 : Int32)) (wg_da dt_X12_draw 3 rfl) wq_8_186 ?_
  refine wr_aload_n (wg_da dt_X12_draw 4 rfl) rfl ?_
  refine wr_getR wf_X12_7 (wg_da dt_X12_draw 5 rfl) hx0 ?_
  refine wr_iconst (1 : Int32) (wg_da dt_X12_draw 6 rfl) (by decide) ?_
  refine wr_iald (wg_da dt_X12_draw 7 rfl) (wg_ty Sm_ok 12 1 0 hx0 rfl (by decide)).2 h (fun v1 h => ?_)
  refine wr_imul (wg_da dt_X12_draw 8 rfl) ?_
  refine wr_ldc (v := (1013904223 : Int32)) (wg_da dt_X12_draw 9 rfl) wq_8_187 ?_
  refine wr_iadd (wg_da dt_X12_draw 10 rfl) ?_
  refine wr_iast (wg_da dt_X12_draw 11 rfl) (wg_ty Sm_ok 12 1 0 hx0 rfl (by decide)).2 h (fun s2 h => ?_)
  refine wr_aload_n (wg_da dt_X12_draw 12 rfl) rfl ?_
  refine wr_getR wf_X12_7 (wg_da dt_X12_draw 13 rfl) hx0 ?_
  refine wr_iconst (1 : Int32) (wg_da dt_X12_draw 14 rfl) (by decide) ?_
  refine wr_iald (wg_da dt_X12_draw 15 rfl) (wg_ty Sm_ok 12 1 0 hx0 rfl (by decide)).2 h (fun v3 h => ?_)
  refine wr_bipush (8 : Int32) (wg_da dt_X12_draw 16 rfl) (by decide) ?_
  refine wr_iushr (wg_da dt_X12_draw 17 rfl) ?_
  refine wr_iload_n (wg_da dt_X12_draw 18 rfl) rfl ?_
  refine wr_irem (wg_da dt_X12_draw 19 rfl) h (fun v4 h => ?_)
  exact wr_iret (wg_da dt_X12_draw 20 rfl) h
theorem m_X12_draw (l : Launch) (E : wg_E) (x0 : Nat) (x1 : Int32) (hx0 : wg_t Sm x0 = 14) (σ : wg_M) (q : Int32 × wg_M) (h : f_X12_draw x0 x1 σ = some q) : wg_MG l E Sm yX12_draw cX12_draw 2 (some .int) rm_X12_draw [.ref x0, .int x1] σ (some q.1) q.2 :=
  wg_met [.ref x0, .int x1] (plainFor_of_name (by decide)) (Nat.le_of_ble_eq_true rfl) (g_X12_draw_e l E x0 x1 σ q hx0 h)
abbrev rm_X12_isWig : Room := { frames := 0, cells := 0, slots := 0, locals := 0 }
def tb_X12_isWig : List (Nat × Instr × Nat) := [(0, .iload_n 1, 1), (1, .ifCond .lt 15, 3), (4, .iload_n 1, 1), (5, .aload_n 0, 1), (6, .getfield 125, 3), (9, .if_icmp .ge 7, 3), (12, .iconst 1, 1), (13, .goto 4, 3), (16, .iconst 0, 1), (17, .ireturn, 1)]
theorem dt_X12_isWig : wg_dc cX12_isWig tb_X12_isWig := by unfold wg_dc; decide +kernel
def f_X12_isWig  (x0 : Nat) (x1 : Int32) (σ : wg_M) : Option (Int32 × wg_M) := if x1 < 0 then (some ((0 : Int32), σ)) else (if (σ x0 6) ≤ x1 then (some ((0 : Int32), σ)) else (some ((1 : Int32), σ)))
set_option maxRecDepth 20000 in
theorem g_X12_isWig_e (l : Launch) (E : wg_E)  (x0 : Nat) (x1 : Int32) (σ : wg_M) (z : Int32 × wg_M) (hx0 : wg_t Sm x0 = 14) (h : f_X12_isWig  x0 x1 σ = some z) : wg_G l E Sm "WornWigsModel" cX12_isWig 2 (some .boolean) rm_X12_isWig (some z.1) z.2 0 [some (.ref x0), some (.int x1)] [] σ := by
  refine wr_iload_n (wg_da dt_X12_isWig 0 rfl) rfl ?_
  refine wr_if_lt 16 (wg_da dt_X12_isWig 1 rfl) (by decide) h (fun h => ?_) (fun h => ?_)
  · refine wr_iconst (0 : Int32) (wg_da dt_X12_isWig 8 rfl) (by decide) ?_
    exact wr_zret0 (wg_da dt_X12_isWig 9 rfl) h
  · refine wr_iload_n (wg_da dt_X12_isWig 2 rfl) rfl ?_
    refine wr_aload_n (wg_da dt_X12_isWig 3 rfl) rfl ?_
    refine wr_getI wf_X12_125 (wg_da dt_X12_isWig 4 rfl) hx0 ?_
    refine wr_icmp_ge 16 (wg_da dt_X12_isWig 5 rfl) (by decide) h (fun h => ?_) (fun h => ?_)
    · refine wr_iconst (0 : Int32) (wg_da dt_X12_isWig 8 rfl) (by decide) ?_
      exact wr_zret0 (wg_da dt_X12_isWig 9 rfl) h
    · refine wr_iconst (1 : Int32) (wg_da dt_X12_isWig 6 rfl) (by decide) ?_
      refine wr_goto 17 (wg_da dt_X12_isWig 7 rfl) (by decide) ?_
      exact wr_zret1 (wg_da dt_X12_isWig 9 rfl) h
theorem m_X12_isWig (l : Launch) (E : wg_E) (x0 : Nat) (x1 : Int32) (hx0 : wg_t Sm x0 = 14) (σ : wg_M) (q : Int32 × wg_M) (h : f_X12_isWig x0 x1 σ = some q) : wg_MG l E Sm yX12_isWig cX12_isWig 2 (some .boolean) rm_X12_isWig [.ref x0, .int x1] σ (some q.1) q.2 :=
  wg_met [.ref x0, .int x1] (plainFor_of_name (by decide)) (Nat.le_of_ble_eq_true rfl) (g_X12_isWig_e l E x0 x1 σ q hx0 h)
abbrev rm_X12_isJudge : Room := { frames := 0, cells := 0, slots := 0, locals := 0 }
def tb_X12_isJudge : List (Nat × Instr × Nat) := [(0, .iload_n 1, 1), (1, .ifCond .lt 15, 3), (4, .iload_n 1, 1), (5, .aload_n 0, 1), (6, .getfield 128, 3), (9, .if_icmp .ge 7, 3), (12, .iconst 1, 1), (13, .goto 4, 3), (16, .iconst 0, 1), (17, .ireturn, 1)]
theorem dt_X12_isJudge : wg_dc cX12_isJudge tb_X12_isJudge := by unfold wg_dc; decide +kernel
def f_X12_isJudge  (x0 : Nat) (x1 : Int32) (σ : wg_M) : Option (Int32 × wg_M) := if x1 < 0 then (some ((0 : Int32), σ)) else (if (σ x0 7) ≤ x1 then (some ((0 : Int32), σ)) else (some ((1 : Int32), σ)))
set_option maxRecDepth 20000 in
theorem g_X12_isJudge_e (l : Launch) (E : wg_E)  (x0 : Nat) (x1 : Int32) (σ : wg_M) (z : Int32 × wg_M) (hx0 : wg_t Sm x0 = 14) (h : f_X12_isJudge  x0 x1 σ = some z) : wg_G l E Sm "WornWigsModel" cX12_isJudge 2 (some .boolean) rm_X12_isJudge (some z.1) z.2 0 [some (.ref x0), some (.int x1)] [] σ := by
  refine wr_iload_n (wg_da dt_X12_isJudge 0 rfl) rfl ?_
  refine wr_if_lt 16 (wg_da dt_X12_isJudge 1 rfl) (by decide) h (fun h => ?_) (fun h => ?_)
  · refine wr_iconst (0 : Int32) (wg_da dt_X12_isJudge 8 rfl) (by decide) ?_
    exact wr_zret0 (wg_da dt_X12_isJudge 9 rfl) h
  · refine wr_iload_n (wg_da dt_X12_isJudge 2 rfl) rfl ?_
    refine wr_aload_n (wg_da dt_X12_isJudge 3 rfl) rfl ?_
    refine wr_getI wf_X12_128 (wg_da dt_X12_isJudge 4 rfl) hx0 ?_
    refine wr_icmp_ge 16 (wg_da dt_X12_isJudge 5 rfl) (by decide) h (fun h => ?_) (fun h => ?_)
    · refine wr_iconst (0 : Int32) (wg_da dt_X12_isJudge 8 rfl) (by decide) ?_
      exact wr_zret0 (wg_da dt_X12_isJudge 9 rfl) h
    · refine wr_iconst (1 : Int32) (wg_da dt_X12_isJudge 6 rfl) (by decide) ?_
      refine wr_goto 17 (wg_da dt_X12_isJudge 7 rfl) (by decide) ?_
      exact wr_zret1 (wg_da dt_X12_isJudge 9 rfl) h
theorem m_X12_isJudge (l : Launch) (E : wg_E) (x0 : Nat) (x1 : Int32) (hx0 : wg_t Sm x0 = 14) (σ : wg_M) (q : Int32 × wg_M) (h : f_X12_isJudge x0 x1 σ = some q) : wg_MG l E Sm yX12_isJudge cX12_isJudge 2 (some .boolean) rm_X12_isJudge [.ref x0, .int x1] σ (some q.1) q.2 :=
  wg_met [.ref x0, .int x1] (plainFor_of_name (by decide)) (Nat.le_of_ble_eq_true rfl) (g_X12_isJudge_e l E x0 x1 σ q hx0 h)
abbrev rm_X12_isTrial : Room := { frames := 0, cells := 0, slots := 0, locals := 0 }
def tb_X12_isTrial : List (Nat × Instr × Nat) := [(0, .iload_n 1, 1), (1, .ifCond .lt 15, 3), (4, .iload_n 1, 1), (5, .aload_n 0, 1), (6, .getfield 131, 3), (9, .if_icmp .ge 7, 3), (12, .iconst 1, 1), (13, .goto 4, 3), (16, .iconst 0, 1), (17, .ireturn, 1)]
theorem dt_X12_isTrial : wg_dc cX12_isTrial tb_X12_isTrial := by unfold wg_dc; decide +kernel
def f_X12_isTrial  (x0 : Nat) (x1 : Int32) (σ : wg_M) : Option (Int32 × wg_M) := if x1 < 0 then (some ((0 : Int32), σ)) else (if (σ x0 8) ≤ x1 then (some ((0 : Int32), σ)) else (some ((1 : Int32), σ)))
set_option maxRecDepth 20000 in
theorem g_X12_isTrial_e (l : Launch) (E : wg_E)  (x0 : Nat) (x1 : Int32) (σ : wg_M) (z : Int32 × wg_M) (hx0 : wg_t Sm x0 = 14) (h : f_X12_isTrial  x0 x1 σ = some z) : wg_G l E Sm "WornWigsModel" cX12_isTrial 2 (some .boolean) rm_X12_isTrial (some z.1) z.2 0 [some (.ref x0), some (.int x1)] [] σ := by
  refine wr_iload_n (wg_da dt_X12_isTrial 0 rfl) rfl ?_
  refine wr_if_lt 16 (wg_da dt_X12_isTrial 1 rfl) (by decide) h (fun h => ?_) (fun h => ?_)
  · refine wr_iconst (0 : Int32) (wg_da dt_X12_isTrial 8 rfl) (by decide) ?_
    exact wr_zret0 (wg_da dt_X12_isTrial 9 rfl) h
  · refine wr_iload_n (wg_da dt_X12_isTrial 2 rfl) rfl ?_
    refine wr_aload_n (wg_da dt_X12_isTrial 3 rfl) rfl ?_
    refine wr_getI wf_X12_131 (wg_da dt_X12_isTrial 4 rfl) hx0 ?_
    refine wr_icmp_ge 16 (wg_da dt_X12_isTrial 5 rfl) (by decide) h (fun h => ?_) (fun h => ?_)
    · refine wr_iconst (0 : Int32) (wg_da dt_X12_isTrial 8 rfl) (by decide) ?_
      exact wr_zret0 (wg_da dt_X12_isTrial 9 rfl) h
    · refine wr_iconst (1 : Int32) (wg_da dt_X12_isTrial 6 rfl) (by decide) ?_
      refine wr_goto 17 (wg_da dt_X12_isTrial 7 rfl) (by decide) ?_
      exact wr_zret1 (wg_da dt_X12_isTrial 9 rfl) h
theorem m_X12_isTrial (l : Launch) (E : wg_E) (x0 : Nat) (x1 : Int32) (hx0 : wg_t Sm x0 = 14) (σ : wg_M) (q : Int32 × wg_M) (h : f_X12_isTrial x0 x1 σ = some q) : wg_MG l E Sm yX12_isTrial cX12_isTrial 2 (some .boolean) rm_X12_isTrial [.ref x0, .int x1] σ (some q.1) q.2 :=
  wg_met [.ref x0, .int x1] (plainFor_of_name (by decide)) (Nat.le_of_ble_eq_true rfl) (g_X12_isTrial_e l E x0 x1 σ q hx0 h)
abbrev rm_X12_wigOf : Room := { frames := 0, cells := 0, slots := 0, locals := 0 }
def tb_X12_wigOf : List (Nat × Instr × Nat) := [(0, .aload_n 0, 1), (1, .getfield 7, 3), (4, .bipush 13, 2), (6, .iload_n 1, 1), (7, .iadd, 1), (8, .iaload, 1), (9, .iconst 1, 1), (10, .isub, 1), (11, .ireturn, 1)]
theorem dt_X12_wigOf : wg_dc cX12_wigOf tb_X12_wigOf := by unfold wg_dc; decide +kernel
def f_X12_wigOf  (x0 : Nat) (x1 : Int32) (σ : wg_M) : Option (Int32 × wg_M) := wg_ga (wg_n Sm (wg_r Sm x0 1)) (σ (wg_r Sm x0 1)) ((13 : Int32) + x1) (fun v1 => some (v1 - (1 : Int32), σ))
set_option maxRecDepth 20000 in
theorem g_X12_wigOf_e (l : Launch) (E : wg_E)  (x0 : Nat) (x1 : Int32) (σ : wg_M) (z : Int32 × wg_M) (hx0 : wg_t Sm x0 = 14) (h : f_X12_wigOf  x0 x1 σ = some z) : wg_G l E Sm "WornWigsModel" cX12_wigOf 2 (some .int) rm_X12_wigOf (some z.1) z.2 0 [some (.ref x0), some (.int x1)] [] σ := by
  refine wr_aload_n (wg_da dt_X12_wigOf 0 rfl) rfl ?_
  refine wr_getR wf_X12_7 (wg_da dt_X12_wigOf 1 rfl) hx0 ?_
  refine wr_bipush (13 : Int32) (wg_da dt_X12_wigOf 2 rfl) (by decide) ?_
  refine wr_iload_n (wg_da dt_X12_wigOf 3 rfl) rfl ?_
  refine wr_iadd (wg_da dt_X12_wigOf 4 rfl) ?_
  refine wr_iald (wg_da dt_X12_wigOf 5 rfl) (wg_ty Sm_ok 12 1 0 hx0 rfl (by decide)).2 h (fun v1 h => ?_)
  refine wr_iconst (1 : Int32) (wg_da dt_X12_wigOf 6 rfl) (by decide) ?_
  refine wr_isub (wg_da dt_X12_wigOf 7 rfl) ?_
  exact wr_iret (wg_da dt_X12_wigOf 8 rfl) h
theorem m_X12_wigOf (l : Launch) (E : wg_E) (x0 : Nat) (x1 : Int32) (hx0 : wg_t Sm x0 = 14) (σ : wg_M) (q : Int32 × wg_M) (h : f_X12_wigOf x0 x1 σ = some q) : wg_MG l E Sm yX12_wigOf cX12_wigOf 2 (some .int) rm_X12_wigOf [.ref x0, .int x1] σ (some q.1) q.2 :=
  wg_met [.ref x0, .int x1] (plainFor_of_name (by decide)) (Nat.le_of_ble_eq_true rfl) (g_X12_wigOf_e l E x0 x1 σ q hx0 h)
abbrev rm_X12_isAlive : Room := { frames := 0, cells := 0, slots := 0, locals := 0 }
def tb_X12_isAlive : List (Nat × Instr × Nat) := [(0, .aload_n 0, 1), (1, .getfield 7, 3), (4, .bipush 23, 2), (6, .iload_n 1, 1), (7, .iadd, 1), (8, .iaload, 1), (9, .ifCond .ne 7, 3), (12, .iconst 1, 1), (13, .goto 4, 3), (16, .iconst 0, 1), (17, .ireturn, 1)]
theorem dt_X12_isAlive : wg_dc cX12_isAlive tb_X12_isAlive := by unfold wg_dc; decide +kernel
def f_X12_isAlive  (x0 : Nat) (x1 : Int32) (σ : wg_M) : Option (Int32 × wg_M) := wg_ga (wg_n Sm (wg_r Sm x0 1)) (σ (wg_r Sm x0 1)) ((23 : Int32) + x1) (fun v1 => if v1 = 0 then (some ((1 : Int32), σ)) else (some ((0 : Int32), σ)))
set_option maxRecDepth 20000 in
theorem g_X12_isAlive_e (l : Launch) (E : wg_E)  (x0 : Nat) (x1 : Int32) (σ : wg_M) (z : Int32 × wg_M) (hx0 : wg_t Sm x0 = 14) (h : f_X12_isAlive  x0 x1 σ = some z) : wg_G l E Sm "WornWigsModel" cX12_isAlive 2 (some .boolean) rm_X12_isAlive (some z.1) z.2 0 [some (.ref x0), some (.int x1)] [] σ := by
  refine wr_aload_n (wg_da dt_X12_isAlive 0 rfl) rfl ?_
  refine wr_getR wf_X12_7 (wg_da dt_X12_isAlive 1 rfl) hx0 ?_
  refine wr_bipush (23 : Int32) (wg_da dt_X12_isAlive 2 rfl) (by decide) ?_
  refine wr_iload_n (wg_da dt_X12_isAlive 3 rfl) rfl ?_
  refine wr_iadd (wg_da dt_X12_isAlive 4 rfl) ?_
  refine wr_iald (wg_da dt_X12_isAlive 5 rfl) (wg_ty Sm_ok 12 1 0 hx0 rfl (by decide)).2 h (fun v1 h => ?_)
  refine wr_if_ne 16 (wg_da dt_X12_isAlive 6 rfl) (by decide) h (fun h => ?_) (fun h => ?_)
  · refine wr_iconst (1 : Int32) (wg_da dt_X12_isAlive 7 rfl) (by decide) ?_
    refine wr_goto 17 (wg_da dt_X12_isAlive 8 rfl) (by decide) ?_
    exact wr_zret1 (wg_da dt_X12_isAlive 10 rfl) h
  · refine wr_iconst (0 : Int32) (wg_da dt_X12_isAlive 9 rfl) (by decide) ?_
    exact wr_zret0 (wg_da dt_X12_isAlive 10 rfl) h
theorem m_X12_isAlive (l : Launch) (E : wg_E) (x0 : Nat) (x1 : Int32) (hx0 : wg_t Sm x0 = 14) (σ : wg_M) (q : Int32 × wg_M) (h : f_X12_isAlive x0 x1 σ = some q) : wg_MG l E Sm yX12_isAlive cX12_isAlive 2 (some .boolean) rm_X12_isAlive [.ref x0, .int x1] σ (some q.1) q.2 :=
  wg_met [.ref x0, .int x1] (plainFor_of_name (by decide)) (Nat.le_of_ble_eq_true rfl) (g_X12_isAlive_e l E x0 x1 σ q hx0 h)
abbrev rm_X12_wearerOf : Room := { frames := 1, cells := 0, slots := 0, locals := 21 }
def tb_X12_wearerOf : List (Nat × Instr × Nat) := [(0, .iconst 0, 1), (1, .istore_n 2, 1), (2, .iload_n 2, 1), (3, .aload_n 0, 1), (4, .getfield 128, 3), (7, .if_icmp .ge 20, 3), (10, .aload_n 0, 1), (11, .iload_n 2, 1), (12, .invokevirtual 134, 3), (15, .iload_n 1, 1), (16, .if_icmp .ne 5, 3), (19, .iload_n 2, 1), (20, .ireturn, 1), (21, .iinc 2 1, 3), (24, .goto (-22), 3), (27, .iconst (-1), 1), (28, .ireturn, 1)]
theorem dt_X12_wearerOf : wg_dc cX12_wearerOf tb_X12_wearerOf := by unfold wg_dc; decide +kernel
def f_X12_wearerOf_2  : Nat → Nat → Int32 → Int32 → wg_M → Option (Int32 × wg_M)
  | 0, _, _, _, _ => none
  | n + 1, x0, x1, x2, σ => if (σ x0 7) ≤ x2 then (some ((-1 : Int32), σ)) else (wg_bd (f_X12_wigOf x0 x2 σ) (fun v1 s2 => if v1 = x1 then (some (x2, s2)) else (wg_let (x2 + (1 : Int32)) (fun v3 => f_X12_wearerOf_2  n x0 x1 v3 s2))))
def f_X12_wearerOf  (x0 : Nat) (x1 : Int32) (σ : wg_M) : Option (Int32 × wg_M) := f_X12_wearerOf_2  wg_N x0 x1 (0 : Int32) σ
set_option maxRecDepth 20000 in
theorem g_X12_wearerOf_2 (l : Launch) (E : wg_E)  (z : Int32 × wg_M) : ∀ (n : Nat) (x0 : Nat) (x1 : Int32) (x2 : Int32) (σ : wg_M) (hx0 : wg_t Sm x0 = 14) (h : f_X12_wearerOf_2  n x0 x1 x2 σ = some z), wg_G l E Sm "WornWigsModel" cX12_wearerOf 3 (some .int) rm_X12_wearerOf (some z.1) z.2 2 [some (.ref x0), some (.int x1), some (.int x2)] [] σ := by
  intro n
  induction n with
  | zero => intro x0 x1 x2 σ hx0 h; cases h
  | succ n ih =>
    intro x0 x1 x2 σ hx0 h
    refine wr_iload_n (wg_da dt_X12_wearerOf 2 rfl) rfl ?_
    refine wr_aload_n (wg_da dt_X12_wearerOf 3 rfl) rfl ?_
    refine wr_getI wf_X12_128 (wg_da dt_X12_wearerOf 4 rfl) hx0 ?_
    refine wr_icmp_ge 27 (wg_da dt_X12_wearerOf 5 rfl) (by decide) h (fun h => ?_) (fun h => ?_)
    · refine wr_iconst (-1 : Int32) (wg_da dt_X12_wearerOf 15 rfl) (by decide) ?_
      exact wr_iret (wg_da dt_X12_wearerOf 16 rfl) h
    · refine wr_aload_n (wg_da dt_X12_wearerOf 6 rfl) rfl ?_
      refine wr_iload_n (wg_da dt_X12_wearerOf 7 rfl) rfl ?_
      refine wr_callVi [.int x2] [] (wg_da dt_X12_wearerOf 8 rfl) ⟨wq_8_78, wq_8_80, wq_p7_5⟩ hx0 ⟨rfl, by decide⟩ wy_X12_wigOf (fun q hq => m_X12_wigOf l E x0 x2 hx0 _ q hq) rfl rfl (Nat.le_of_ble_eq_true rfl) ⟨rfl, rfl, by decide, by decide⟩ h (fun v1 s2 h => ?_)
      refine wr_iload_n (wg_da dt_X12_wearerOf 9 rfl) rfl ?_
      refine wr_icmp_ne 21 (wg_da dt_X12_wearerOf 10 rfl) (by decide) h (fun h => ?_) (fun h => ?_)
      · refine wr_iload_n (wg_da dt_X12_wearerOf 11 rfl) rfl ?_
        exact wr_iret (wg_da dt_X12_wearerOf 12 rfl) h
      · refine wr_iinc (c0 := (1 : Int32)) (wg_da dt_X12_wearerOf 13 rfl) rfl (by decide) (by decide) h (fun v3 h => ?_)
        refine wr_goto 2 (wg_da dt_X12_wearerOf 14 rfl) (by decide) ?_
        exact wr_wk [true, true, true] (ih x0 x1 v3 s2 hx0 h)
set_option maxRecDepth 20000 in
theorem g_X12_wearerOf_e (l : Launch) (E : wg_E)  (x0 : Nat) (x1 : Int32) (σ : wg_M) (z : Int32 × wg_M) (hx0 : wg_t Sm x0 = 14) (h : f_X12_wearerOf  x0 x1 σ = some z) : wg_G l E Sm "WornWigsModel" cX12_wearerOf 3 (some .int) rm_X12_wearerOf (some z.1) z.2 0 [some (.ref x0), some (.int x1), none] [] σ := by
  refine wr_iconst (0 : Int32) (wg_da dt_X12_wearerOf 0 rfl) (by decide) ?_
  refine wr_istore_n (wg_da dt_X12_wearerOf 1 rfl) (by decide) ?_
  exact wr_wk [true, true, true] (g_X12_wearerOf_2 l E  _  wg_N x0 x1 (0 : Int32) σ hx0 h)
theorem m_X12_wearerOf (l : Launch) (E : wg_E) (x0 : Nat) (x1 : Int32) (hx0 : wg_t Sm x0 = 14) (σ : wg_M) (q : Int32 × wg_M) (h : f_X12_wearerOf x0 x1 σ = some q) : wg_MG l E Sm yX12_wearerOf cX12_wearerOf 3 (some .int) rm_X12_wearerOf [.ref x0, .int x1] σ (some q.1) q.2 :=
  wg_met [.ref x0, .int x1] (plainFor_of_name (by decide)) (Nat.le_of_ble_eq_true rfl) (g_X12_wearerOf_e l E x0 x1 σ q hx0 h)
abbrev rm_X12_ruleAt : Room := { frames := 0, cells := 0, slots := 0, locals := 0 }
def tb_X12_ruleAt : List (Nat × Instr × Nat) := [(0, .bipush 75, 2), (2, .bipush 24, 2), (4, .iload_n 1, 1), (5, .imul, 1), (6, .iadd, 1), (7, .iconst 3, 1), (8, .iload_n 2, 1), (9, .imul, 1), (10, .iadd, 1), (11, .ireturn, 1)]
theorem dt_X12_ruleAt : wg_dc cX12_ruleAt tb_X12_ruleAt := by unfold wg_dc; decide +kernel
def f_X12_ruleAt  (x0 : Nat) (x1 : Int32) (x2 : Int32) (σ : wg_M) : Option (Int32 × wg_M) := some (((75 : Int32) + ((24 : Int32) * x1)) + ((3 : Int32) * x2), σ)
set_option maxRecDepth 20000 in
theorem g_X12_ruleAt_e (l : Launch) (E : wg_E)  (x0 : Nat) (x1 : Int32) (x2 : Int32) (σ : wg_M) (z : Int32 × wg_M) (hx0 : wg_t Sm x0 = 14) (h : f_X12_ruleAt  x0 x1 x2 σ = some z) : wg_G l E Sm "WornWigsModel" cX12_ruleAt 3 (some .int) rm_X12_ruleAt (some z.1) z.2 0 [some (.ref x0), some (.int x1), some (.int x2)] [] σ := by
  refine wr_bipush (75 : Int32) (wg_da dt_X12_ruleAt 0 rfl) (by decide) ?_
  refine wr_bipush (24 : Int32) (wg_da dt_X12_ruleAt 1 rfl) (by decide) ?_
  refine wr_iload_n (wg_da dt_X12_ruleAt 2 rfl) rfl ?_
  refine wr_imul (wg_da dt_X12_ruleAt 3 rfl) ?_
  refine wr_iadd (wg_da dt_X12_ruleAt 4 rfl) ?_
  refine wr_iconst (3 : Int32) (wg_da dt_X12_ruleAt 5 rfl) (by decide) ?_
  refine wr_iload_n (wg_da dt_X12_ruleAt 6 rfl) rfl ?_
  refine wr_imul (wg_da dt_X12_ruleAt 7 rfl) ?_
  refine wr_iadd (wg_da dt_X12_ruleAt 8 rfl) ?_
  exact wr_iret (wg_da dt_X12_ruleAt 9 rfl) h
theorem m_X12_ruleAt (l : Launch) (E : wg_E) (x0 : Nat) (x1 : Int32) (x2 : Int32) (hx0 : wg_t Sm x0 = 14) (σ : wg_M) (q : Int32 × wg_M) (h : f_X12_ruleAt x0 x1 x2 σ = some q) : wg_MG l E Sm yX12_ruleAt cX12_ruleAt 3 (some .int) rm_X12_ruleAt [.ref x0, .int x1, .int x2] σ (some q.1) q.2 :=
  wg_met [.ref x0, .int x1, .int x2] (plainFor_of_name (by decide)) (Nat.le_of_ble_eq_true rfl) (g_X12_ruleAt_e l E x0 x1 x2 σ q hx0 h)
abbrev rm_X12_isItching : Room := { frames := 1, cells := 0, slots := 0, locals := 22 }
def tb_X12_isItching : List (Nat × Instr × Nat) := [(0, .aload_n 0, 1), (1, .iload_n 1, 1), (2, .iload_n 2, 1), (3, .invokevirtual 138, 3), (6, .istore 4, 2), (8, .aload_n 0, 1), (9, .iload_n 1, 1), (10, .iload_n 3, 1), (11, .invokevirtual 138, 3), (14, .istore 5, 2), (16, .aload_n 0, 1), (17, .getfield 7, 3), (20, .iload 4, 2), (22, .iaload, 1), (23, .aload_n 0, 1), (24, .getfield 7, 3), (27, .iload 5, 2), (29, .iaload, 1), (30, .if_icmp .ne 55, 3), (33, .aload_n 0, 1), (34, .getfield 7, 3), (37, .iload 4, 2), (39, .iconst 1, 1), (40, .iadd, 1), (41, .iaload, 1), (42, .ifCond .ge 15, 3), (45, .aload_n 0, 1), (46, .getfield 7, 3), (49, .iload 5, 2), (51, .iconst 1, 1), (52, .iadd, 1), (53, .iaload, 1), (54, .ifCond .gt 27, 3), (57, .aload_n 0, 1), (58, .getfield 7, 3), (61, .iload 4, 2), (63, .iconst 1, 1), (64, .iadd, 1), (65, .iaload, 1), (66, .ifCond .le 19, 3), (69, .aload_n 0, 1), (70, .getfield 7, 3), (73, .iload 5, 2), (75, .iconst 1, 1), (76, .iadd, 1), (77, .iaload, 1), (78, .ifCond .ge 7, 3), (81, .iconst 1, 1), (82, .goto 4, 3), (85, .iconst 0, 1), (86, .ireturn, 1)]
theorem dt_X12_isItching : wg_dc cX12_isItching tb_X12_isItching := by unfold wg_dc; decide +kernel
def f_X12_isItching_81   (σ : wg_M) : Option (Int32 × wg_M) := some ((1 : Int32), σ)
def f_X12_isItching_57  (x0 : Nat) (x4 : Int32) (x5 : Int32) (σ : wg_M) : Option (Int32 × wg_M) := wg_ga (wg_n Sm (wg_r Sm x0 1)) (σ (wg_r Sm x0 1)) (x4 + (1 : Int32)) (fun v1 => if v1 ≤ 0 then (some ((0 : Int32), σ)) else (wg_ga (wg_n Sm (wg_r Sm x0 1)) (σ (wg_r Sm x0 1)) (x5 + (1 : Int32)) (fun v2 => if 0 ≤ v2 then (some ((0 : Int32), σ)) else (f_X12_isItching_81   σ))))
def f_X12_isItching  (x0 : Nat) (x1 : Int32) (x2 : Int32) (x3 : Int32) (σ : wg_M) : Option (Int32 × wg_M) := wg_bd (f_X12_ruleAt x0 x1 x2 σ) (fun v1 s2 => wg_bd (f_X12_ruleAt x0 x1 x3 s2) (fun v3 s4 => wg_ga (wg_n Sm (wg_r Sm x0 1)) (s4 (wg_r Sm x0 1)) v1 (fun v5 => wg_ga (wg_n Sm (wg_r Sm x0 1)) (s4 (wg_r Sm x0 1)) v3 (fun v6 => if v5 = v6 then (wg_ga (wg_n Sm (wg_r Sm x0 1)) (s4 (wg_r Sm x0 1)) (v1 + (1 : Int32)) (fun v7 => if 0 ≤ v7 then (f_X12_isItching_57  x0 v1 v3 s4) else (wg_ga (wg_n Sm (wg_r Sm x0 1)) (s4 (wg_r Sm x0 1)) (v3 + (1 : Int32)) (fun v8 => if 0 < v8 then (f_X12_isItching_81   s4) else (f_X12_isItching_57  x0 v1 v3 s4))))) else (some ((0 : Int32), s4))))))
set_option maxRecDepth 20000 in
theorem g_X12_isItching_81 (l : Launch) (E : wg_E)   (σ : wg_M) (z : Int32 × wg_M)  (h : f_X12_isItching_81   σ = some z) : wg_G l E Sm "WornWigsModel" cX12_isItching 6 (some .boolean) rm_X12_isItching (some z.1) z.2 81 [none, none, none, none, none, none] [] σ := by
  refine wr_iconst (1 : Int32) (wg_da dt_X12_isItching 47 rfl) (by decide) ?_
  refine wr_goto 86 (wg_da dt_X12_isItching 48 rfl) (by decide) ?_
  exact wr_zret1 (wg_da dt_X12_isItching 50 rfl) h
set_option maxRecDepth 20000 in
theorem g_X12_isItching_57 (l : Launch) (E : wg_E)  (x0 : Nat) (x4 : Int32) (x5 : Int32) (σ : wg_M) (z : Int32 × wg_M) (hx0 : wg_t Sm x0 = 14) (h : f_X12_isItching_57  x0 x4 x5 σ = some z) : wg_G l E Sm "WornWigsModel" cX12_isItching 6 (some .boolean) rm_X12_isItching (some z.1) z.2 57 [some (.ref x0), none, none, none, some (.int x4), some (.int x5)] [] σ := by
  refine wr_aload_n (wg_da dt_X12_isItching 33 rfl) rfl ?_
  refine wr_getR wf_X12_7 (wg_da dt_X12_isItching 34 rfl) hx0 ?_
  refine wr_iload (wg_da dt_X12_isItching 35 rfl) rfl ?_
  refine wr_iconst (1 : Int32) (wg_da dt_X12_isItching 36 rfl) (by decide) ?_
  refine wr_iadd (wg_da dt_X12_isItching 37 rfl) ?_
  refine wr_iald (wg_da dt_X12_isItching 38 rfl) (wg_ty Sm_ok 12 1 0 hx0 rfl (by decide)).2 h (fun v1 h => ?_)
  refine wr_if_le 85 (wg_da dt_X12_isItching 39 rfl) (by decide) h (fun h => ?_) (fun h => ?_)
  · refine wr_iconst (0 : Int32) (wg_da dt_X12_isItching 49 rfl) (by decide) ?_
    exact wr_zret0 (wg_da dt_X12_isItching 50 rfl) h
  · refine wr_aload_n (wg_da dt_X12_isItching 40 rfl) rfl ?_
    refine wr_getR wf_X12_7 (wg_da dt_X12_isItching 41 rfl) hx0 ?_
    refine wr_iload (wg_da dt_X12_isItching 42 rfl) rfl ?_
    refine wr_iconst (1 : Int32) (wg_da dt_X12_isItching 43 rfl) (by decide) ?_
    refine wr_iadd (wg_da dt_X12_isItching 44 rfl) ?_
    refine wr_iald (wg_da dt_X12_isItching 45 rfl) (wg_ty Sm_ok 12 1 0 hx0 rfl (by decide)).2 h (fun v2 h => ?_)
    refine wr_if_ge 85 (wg_da dt_X12_isItching 46 rfl) (by decide) h (fun h => ?_) (fun h => ?_)
    · refine wr_iconst (0 : Int32) (wg_da dt_X12_isItching 49 rfl) (by decide) ?_
      exact wr_zret0 (wg_da dt_X12_isItching 50 rfl) h
    · exact wr_wk [false, false, false, false, false, false] (g_X12_isItching_81 l E   σ _   h)
set_option maxRecDepth 20000 in
theorem g_X12_isItching_e (l : Launch) (E : wg_E)  (x0 : Nat) (x1 : Int32) (x2 : Int32) (x3 : Int32) (σ : wg_M) (z : Int32 × wg_M) (hx0 : wg_t Sm x0 = 14) (h : f_X12_isItching  x0 x1 x2 x3 σ = some z) : wg_G l E Sm "WornWigsModel" cX12_isItching 6 (some .boolean) rm_X12_isItching (some z.1) z.2 0 [some (.ref x0), some (.int x1), some (.int x2), some (.int x3), none, none] [] σ := by
  refine wr_aload_n (wg_da dt_X12_isItching 0 rfl) rfl ?_
  refine wr_iload_n (wg_da dt_X12_isItching 1 rfl) rfl ?_
  refine wr_iload_n (wg_da dt_X12_isItching 2 rfl) rfl ?_
  refine wr_callVi [.int x1, .int x2] [] (wg_da dt_X12_isItching 3 rfl) ⟨wq_7_106, wq_7_108, wq_p4_6⟩ hx0 ⟨rfl, by decide⟩ wy_X12_ruleAt (fun q hq => m_X12_ruleAt l E x0 x1 x2 hx0 _ q hq) rfl rfl (Nat.le_of_ble_eq_true rfl) ⟨rfl, rfl, by decide, by decide⟩ h (fun v1 s2 h => ?_)
  refine wr_istore (wg_da dt_X12_isItching 4 rfl) (by decide) ?_
  refine wr_aload_n (wg_da dt_X12_isItching 5 rfl) rfl ?_
  refine wr_iload_n (wg_da dt_X12_isItching 6 rfl) rfl ?_
  refine wr_iload_n (wg_da dt_X12_isItching 7 rfl) rfl ?_
  refine wr_callVi [.int x1, .int x3] [] (wg_da dt_X12_isItching 8 rfl) ⟨wq_7_106, wq_7_108, wq_p4_6⟩ hx0 ⟨rfl, by decide⟩ wy_X12_ruleAt (fun q hq => m_X12_ruleAt l E x0 x1 x3 hx0 _ q hq) rfl rfl (Nat.le_of_ble_eq_true rfl) ⟨rfl, rfl, by decide, by decide⟩ h (fun v3 s4 h => ?_)
  refine wr_istore (wg_da dt_X12_isItching 9 rfl) (by decide) ?_
  refine wr_aload_n (wg_da dt_X12_isItching 10 rfl) rfl ?_
  refine wr_getR wf_X12_7 (wg_da dt_X12_isItching 11 rfl) hx0 ?_
  refine wr_iload (wg_da dt_X12_isItching 12 rfl) rfl ?_
  refine wr_iald (wg_da dt_X12_isItching 13 rfl) (wg_ty Sm_ok 12 1 0 hx0 rfl (by decide)).2 h (fun v5 h => ?_)
  refine wr_aload_n (wg_da dt_X12_isItching 14 rfl) rfl ?_
  refine wr_getR wf_X12_7 (wg_da dt_X12_isItching 15 rfl) hx0 ?_
  refine wr_iload (wg_da dt_X12_isItching 16 rfl) rfl ?_
  refine wr_iald (wg_da dt_X12_isItching 17 rfl) (wg_ty Sm_ok 12 1 0 hx0 rfl (by decide)).2 h (fun v6 h => ?_)
  refine wr_icmp_ne 85 (wg_da dt_X12_isItching 18 rfl) (by decide) h (fun h => ?_) (fun h => ?_)
  · refine wr_aload_n (wg_da dt_X12_isItching 19 rfl) rfl ?_
    refine wr_getR wf_X12_7 (wg_da dt_X12_isItching 20 rfl) hx0 ?_
    refine wr_iload (wg_da dt_X12_isItching 21 rfl) rfl ?_
    refine wr_iconst (1 : Int32) (wg_da dt_X12_isItching 22 rfl) (by decide) ?_
    refine wr_iadd (wg_da dt_X12_isItching 23 rfl) ?_
    refine wr_iald (wg_da dt_X12_isItching 24 rfl) (wg_ty Sm_ok 12 1 0 hx0 rfl (by decide)).2 h (fun v7 h => ?_)
    refine wr_if_ge 57 (wg_da dt_X12_isItching 25 rfl) (by decide) h (fun h => ?_) (fun h => ?_)
    · exact wr_wk [true, false, false, false, true, true] (g_X12_isItching_57 l E  x0 v1 v3 s4 _ hx0  h)
    · refine wr_aload_n (wg_da dt_X12_isItching 26 rfl) rfl ?_
      refine wr_getR wf_X12_7 (wg_da dt_X12_isItching 27 rfl) hx0 ?_
      refine wr_iload (wg_da dt_X12_isItching 28 rfl) rfl ?_
      refine wr_iconst (1 : Int32) (wg_da dt_X12_isItching 29 rfl) (by decide) ?_
      refine wr_iadd (wg_da dt_X12_isItching 30 rfl) ?_
      refine wr_iald (wg_da dt_X12_isItching 31 rfl) (wg_ty Sm_ok 12 1 0 hx0 rfl (by decide)).2 h (fun v8 h => ?_)
      refine wr_if_gt 81 (wg_da dt_X12_isItching 32 rfl) (by decide) h (fun h => ?_) (fun h => ?_)
      · exact wr_wk [false, false, false, false, false, false] (g_X12_isItching_81 l E   s4 _   h)
      · exact wr_wk [true, false, false, false, true, true] (g_X12_isItching_57 l E  x0 v1 v3 s4 _ hx0  h)
  · refine wr_iconst (0 : Int32) (wg_da dt_X12_isItching 49 rfl) (by decide) ?_
    exact wr_zret0 (wg_da dt_X12_isItching 50 rfl) h
theorem m_X12_isItching (l : Launch) (E : wg_E) (x0 : Nat) (x1 : Int32) (x2 : Int32) (x3 : Int32) (hx0 : wg_t Sm x0 = 14) (σ : wg_M) (q : Int32 × wg_M) (h : f_X12_isItching x0 x1 x2 x3 σ = some q) : wg_MG l E Sm yX12_isItching cX12_isItching 6 (some .boolean) rm_X12_isItching [.ref x0, .int x1, .int x2, .int x3] σ (some q.1) q.2 :=
  wg_met [.ref x0, .int x1, .int x2, .int x3] (plainFor_of_name (by decide)) (Nat.le_of_ble_eq_true rfl) (g_X12_isItching_e l E x0 x1 x2 x3 σ q hx0 h)
abbrev rm_X12_itches : Room := { frames := 2, cells := 0, slots := 0, locals := 47 }
def tb_X12_itches : List (Nat × Instr × Nat) := [(0, .iconst 0, 1), (1, .istore_n 2, 1), (2, .iconst 0, 1), (3, .istore_n 3, 1), (4, .iload_n 3, 1), (5, .aload_n 0, 1), (6, .getfield 7, 3), (9, .bipush 67, 2), (11, .iload_n 1, 1), (12, .iadd, 1), (13, .iaload, 1), (14, .if_icmp .ge 39, 3), (17, .iconst 0, 1), (18, .istore 4, 2), (20, .iload 4, 2), (22, .iload_n 3, 1), (23, .if_icmp .ge 24, 3), (26, .aload_n 0, 1), (27, .iload_n 1, 1), (28, .iload_n 3, 1), (29, .iload 4, 2), (31, .invokevirtual 142, 3), (34, .ifCond .eq 7, 3), (37, .iload_n 2, 1), (38, .iconst 1, 1), (39, .iadd, 1), (40, .istore_n 2, 1), (41, .iinc 4 1, 3), (44, .goto (-24), 3), (47, .iinc 3 1, 3), (50, .goto (-46), 3), (53, .aload_n 0, 1), (54, .getfield 7, 3), (57, .bipush 51, 2), (59, .iload_n 1, 1), (60, .iadd, 1), (61, .aload_n 0, 1), (62, .bipush 99, 2), (64, .bipush 9, 2), (66, .iload_n 2, 1), (67, .imul, 1), (68, .invokevirtual 146, 3), (71, .iastore, 1), (72, .return_, 1)]
theorem dt_X12_itches : wg_dc cX12_itches tb_X12_itches := by unfold wg_dc; decide +kernel
def f_X12_itches_41 (k20 : Nat → Int32 → Int32 → Int32 → Int32 → wg_M → Option (Int32 × wg_M)) (x0 : Nat) (x1 : Int32) (x2 : Int32) (x3 : Int32) (x4 : Int32) (σ : wg_M) : Option (Int32 × wg_M) := wg_let (x4 + (1 : Int32)) (fun v1 => k20 x0 x1 x2 x3 v1 σ)
def f_X12_itches_20 (k4 : Nat → Int32 → Int32 → Int32 → wg_M → Option (Int32 × wg_M)) : Nat → Nat → Int32 → Int32 → Int32 → Int32 → wg_M → Option (Int32 × wg_M)
  | 0, _, _, _, _, _, _ => none
  | n + 1, x0, x1, x2, x3, x4, σ => if x3 ≤ x4 then (wg_let (x3 + (1 : Int32)) (fun v1 => k4 x0 x1 x2 v1 σ)) else (wg_bd (f_X12_isItching x0 x1 x3 x4 σ) (fun v2 s3 => if v2 = 0 then (f_X12_itches_41 (f_X12_itches_20 k4 n) x0 x1 x2 x3 x4 s3) else (wg_let (x2 + (1 : Int32)) (fun v4 => f_X12_itches_41 (f_X12_itches_20 k4 n) x0 x1 v4 x3 x4 s3))))
def f_X12_itches_4  : Nat → Nat → Int32 → Int32 → Int32 → wg_M → Option (Int32 × wg_M)
  | 0, _, _, _, _, _ => none
  | n + 1, x0, x1, x2, x3, σ => wg_ga (wg_n Sm (wg_r Sm x0 1)) (σ (wg_r Sm x0 1)) ((67 : Int32) + x1) (fun v1 => if v1 ≤ x3 then (wg_bd (f_X12_lesser x0 (99 : Int32) ((9 : Int32) * x2) σ) (fun v2 s3 => wg_sa (wg_n Sm (wg_r Sm x0 1)) s3 (wg_r Sm x0 1) ((51 : Int32) + x1) v2 (fun s4 => some (0, s4)))) else (f_X12_itches_20 (f_X12_itches_4  n) wg_N x0 x1 x2 x3 (0 : Int32) σ))
def f_X12_itches  (x0 : Nat) (x1 : Int32) (σ : wg_M) : Option (Int32 × wg_M) := f_X12_itches_4  wg_N x0 x1 (0 : Int32) (0 : Int32) σ
set_option maxRecDepth 20000 in
theorem g_X12_itches_41 (l : Launch) (E : wg_E) (k20 : Nat → Int32 → Int32 → Int32 → Int32 → wg_M → Option (Int32 × wg_M)) (x0 : Nat) (x1 : Int32) (x2 : Int32) (x3 : Int32) (x4 : Int32) (σ : wg_M) (z : Int32 × wg_M) (hx0 : wg_t Sm x0 = 14) (hk20 : ∀ (x0 : Nat) (x1 : Int32) (x2 : Int32) (x3 : Int32) (x4 : Int32) (σ : wg_M), wg_t Sm x0 = 14 → k20 x0 x1 x2 x3 x4 σ = some z → wg_G l E Sm "WornWigsModel" cX12_itches 5 none rm_X12_itches none z.2 20 [some (.ref x0), some (.int x1), some (.int x2), some (.int x3), some (.int x4)] [] σ) (h : f_X12_itches_41 k20 x0 x1 x2 x3 x4 σ = some z) : wg_G l E Sm "WornWigsModel" cX12_itches 5 none rm_X12_itches none z.2 41 [some (.ref x0), some (.int x1), some (.int x2), some (.int x3), some (.int x4)] [] σ := by
  refine wr_iinc (c0 := (1 : Int32)) (wg_da dt_X12_itches 27 rfl) rfl (by decide) (by decide) h (fun v1 h => ?_)
  refine wr_goto 20 (wg_da dt_X12_itches 28 rfl) (by decide) ?_
  exact wr_wk [true, true, true, true, true] (hk20 x0 x1 x2 x3 v1 σ hx0 h)
set_option maxRecDepth 20000 in
theorem g_X12_itches_20 (l : Launch) (E : wg_E) (k4 : Nat → Int32 → Int32 → Int32 → wg_M → Option (Int32 × wg_M)) (z : Int32 × wg_M) (hk4 : ∀ (x0 : Nat) (x1 : Int32) (x2 : Int32) (x3 : Int32) (σ : wg_M), wg_t Sm x0 = 14 → k4 x0 x1 x2 x3 σ = some z → wg_G l E Sm "WornWigsModel" cX12_itches 5 none rm_X12_itches none z.2 4 [some (.ref x0), some (.int x1), some (.int x2), some (.int x3), none] [] σ) : ∀ (n : Nat) (x0 : Nat) (x1 : Int32) (x2 : Int32) (x3 : Int32) (x4 : Int32) (σ : wg_M) (hx0 : wg_t Sm x0 = 14) (h : f_X12_itches_20 k4 n x0 x1 x2 x3 x4 σ = some z), wg_G l E Sm "WornWigsModel" cX12_itches 5 none rm_X12_itches none z.2 20 [some (.ref x0), some (.int x1), some (.int x2), some (.int x3), some (.int x4)] [] σ := by
  intro n
  induction n with
  | zero => intro x0 x1 x2 x3 x4 σ hx0 h; cases h
  | succ n ih =>
    intro x0 x1 x2 x3 x4 σ hx0 h
    refine wr_iload (wg_da dt_X12_itches 14 rfl) rfl ?_
    refine wr_iload_n (wg_da dt_X12_itches 15 rfl) rfl ?_
    refine wr_icmp_ge 47 (wg_da dt_X12_itches 16 rfl) (by decide) h (fun h => ?_) (fun h => ?_)
    · refine wr_iinc (c0 := (1 : Int32)) (wg_da dt_X12_itches 29 rfl) rfl (by decide) (by decide) h (fun v1 h => ?_)
      refine wr_goto 4 (wg_da dt_X12_itches 30 rfl) (by decide) ?_
      exact wr_wk [true, true, true, true, false] (hk4 x0 x1 x2 v1 σ hx0 h)
    · refine wr_aload_n (wg_da dt_X12_itches 17 rfl) rfl ?_
      refine wr_iload_n (wg_da dt_X12_itches 18 rfl) rfl ?_
      refine wr_iload_n (wg_da dt_X12_itches 19 rfl) rfl ?_
      refine wr_iload (wg_da dt_X12_itches 20 rfl) rfl ?_
      refine wr_callVi [.int x1, .int x3, .int x4] [] (wg_da dt_X12_itches 21 rfl) ⟨wq_7_114, wq_7_116, wq_p4_8⟩ hx0 ⟨rfl, by decide⟩ wy_X12_isItching (fun q hq => m_X12_isItching l E x0 x1 x3 x4 hx0 _ q hq) rfl rfl (Nat.le_of_ble_eq_true rfl) ⟨rfl, rfl, by decide, by decide⟩ h (fun v2 s3 h => ?_)
      refine wr_if_eq 41 (wg_da dt_X12_itches 22 rfl) (by decide) h (fun h => ?_) (fun h => ?_)
      · exact wr_wk [true, true, true, true, true] (g_X12_itches_41 l E (f_X12_itches_20 k4 n) x0 x1 x2 x3 x4 s3 _ hx0 (fun x0 x1 x2 x3 x4 σ hx0 h => ih x0 x1 x2 x3 x4 σ hx0 h) h)
      · refine wr_iload_n (wg_da dt_X12_itches 23 rfl) rfl ?_
        refine wr_iconst (1 : Int32) (wg_da dt_X12_itches 24 rfl) (by decide) ?_
        refine wr_iadd (wg_da dt_X12_itches 25 rfl) ?_
        refine wr_let h (fun v4 h => ?_)
        refine wr_istore_n (wg_da dt_X12_itches 26 rfl) (by decide) ?_
        exact wr_wk [true, true, true, true, true] (g_X12_itches_41 l E (f_X12_itches_20 k4 n) x0 x1 v4 x3 x4 s3 _ hx0 (fun x0 x1 x2 x3 x4 σ hx0 h => ih x0 x1 x2 x3 x4 σ hx0 h) h)
set_option maxRecDepth 20000 in
theorem g_X12_itches_4 (l : Launch) (E : wg_E)  (z : Int32 × wg_M) : ∀ (n : Nat) (x0 : Nat) (x1 : Int32) (x2 : Int32) (x3 : Int32) (σ : wg_M) (hx0 : wg_t Sm x0 = 14) (h : f_X12_itches_4  n x0 x1 x2 x3 σ = some z), wg_G l E Sm "WornWigsModel" cX12_itches 5 none rm_X12_itches none z.2 4 [some (.ref x0), some (.int x1), some (.int x2), some (.int x3), none] [] σ := by
  intro n
  induction n with
  | zero => intro x0 x1 x2 x3 σ hx0 h; cases h
  | succ n ih =>
    intro x0 x1 x2 x3 σ hx0 h
    refine wr_iload_n (wg_da dt_X12_itches 4 rfl) rfl ?_
    refine wr_aload_n (wg_da dt_X12_itches 5 rfl) rfl ?_
    refine wr_getR wf_X12_7 (wg_da dt_X12_itches 6 rfl) hx0 ?_
    refine wr_bipush (67 : Int32) (wg_da dt_X12_itches 7 rfl) (by decide) ?_
    refine wr_iload_n (wg_da dt_X12_itches 8 rfl) rfl ?_
    refine wr_iadd (wg_da dt_X12_itches 9 rfl) ?_
    refine wr_iald (wg_da dt_X12_itches 10 rfl) (wg_ty Sm_ok 12 1 0 hx0 rfl (by decide)).2 h (fun v1 h => ?_)
    refine wr_icmp_ge 53 (wg_da dt_X12_itches 11 rfl) (by decide) h (fun h => ?_) (fun h => ?_)
    · refine wr_aload_n (wg_da dt_X12_itches 31 rfl) rfl ?_
      refine wr_getR wf_X12_7 (wg_da dt_X12_itches 32 rfl) hx0 ?_
      refine wr_bipush (51 : Int32) (wg_da dt_X12_itches 33 rfl) (by decide) ?_
      refine wr_iload_n (wg_da dt_X12_itches 34 rfl) rfl ?_
      refine wr_iadd (wg_da dt_X12_itches 35 rfl) ?_
      refine wr_aload_n (wg_da dt_X12_itches 36 rfl) rfl ?_
      refine wr_bipush (99 : Int32) (wg_da dt_X12_itches 37 rfl) (by decide) ?_
      refine wr_bipush (9 : Int32) (wg_da dt_X12_itches 38 rfl) (by decide) ?_
      refine wr_iload_n (wg_da dt_X12_itches 39 rfl) rfl ?_
      refine wr_imul (wg_da dt_X12_itches 40 rfl) ?_
      refine wr_callVi [.int (99 : Int32), .int ((9 : Int32) * x2)] [.int ((51 : Int32) + x1), .ref (wg_r Sm x0 1)] (wg_da dt_X12_itches 41 rfl) ⟨wq_7_118, wq_7_120, wq_p4_9⟩ hx0 ⟨rfl, by decide⟩ wy_X12_lesser (fun q hq => m_X12_lesser l E x0 (99 : Int32) ((9 : Int32) * x2) hx0 _ q hq) rfl rfl (Nat.le_of_ble_eq_true rfl) ⟨rfl, rfl, by decide, by decide⟩ h (fun v2 s3 h => ?_)
      refine wr_iast (wg_da dt_X12_itches 42 rfl) (wg_ty Sm_ok 12 1 0 hx0 rfl (by decide)).2 h (fun s4 h => ?_)
      exact wr_vret (wg_da dt_X12_itches 43 rfl) h
    · refine wr_iconst (0 : Int32) (wg_da dt_X12_itches 12 rfl) (by decide) ?_
      refine wr_istore (wg_da dt_X12_itches 13 rfl) (by decide) ?_
      exact wr_wk [true, true, true, true, true] (g_X12_itches_20 l E (f_X12_itches_4  n) _ (fun x0 x1 x2 x3 σ hx0 h => ih x0 x1 x2 x3 σ hx0 h) wg_N x0 x1 x2 x3 (0 : Int32) σ hx0 h)
set_option maxRecDepth 20000 in
theorem g_X12_itches_e (l : Launch) (E : wg_E)  (x0 : Nat) (x1 : Int32) (σ : wg_M) (z : Int32 × wg_M) (hx0 : wg_t Sm x0 = 14) (h : f_X12_itches  x0 x1 σ = some z) : wg_G l E Sm "WornWigsModel" cX12_itches 5 none rm_X12_itches none z.2 0 [some (.ref x0), some (.int x1), none, none, none] [] σ := by
  refine wr_iconst (0 : Int32) (wg_da dt_X12_itches 0 rfl) (by decide) ?_
  refine wr_istore_n (wg_da dt_X12_itches 1 rfl) (by decide) ?_
  refine wr_iconst (0 : Int32) (wg_da dt_X12_itches 2 rfl) (by decide) ?_
  refine wr_istore_n (wg_da dt_X12_itches 3 rfl) (by decide) ?_
  exact wr_wk [true, true, true, true, false] (g_X12_itches_4 l E  _  wg_N x0 x1 (0 : Int32) (0 : Int32) σ hx0 h)
theorem m_X12_itches (l : Launch) (E : wg_E) (x0 : Nat) (x1 : Int32) (hx0 : wg_t Sm x0 = 14) (σ : wg_M) (q : Int32 × wg_M) (h : f_X12_itches x0 x1 σ = some q) : wg_MG l E Sm yX12_itches cX12_itches 5 none rm_X12_itches [.ref x0, .int x1] σ none q.2 :=
  wg_met [.ref x0, .int x1] (plainFor_of_name (by decide)) (Nat.le_of_ble_eq_true rfl) (g_X12_itches_e l E x0 x1 σ q hx0 h)
abbrev rm_X12_goesRule : Room := { frames := 1, cells := 0, slots := 0, locals := 22 }
def tb_X12_goesRule : List (Nat × Instr × Nat) := [(0, .aload_n 0, 1), (1, .iload_n 1, 1), (2, .iload_n 2, 1), (3, .invokevirtual 138, 3), (6, .istore_n 3, 1), (7, .iload_n 3, 1), (8, .aload_n 0, 1), (9, .iload_n 1, 1), (10, .aload_n 0, 1), (11, .getfield 7, 3), (14, .bipush 67, 2), (16, .iload_n 1, 1), (17, .iadd, 1), (18, .iaload, 1), (19, .iconst 1, 1), (20, .isub, 1), (21, .invokevirtual 138, 3), (24, .if_icmp .ge 23, 3), (27, .aload_n 0, 1), (28, .getfield 7, 3), (31, .iload_n 3, 1), (32, .aload_n 0, 1), (33, .getfield 7, 3), (36, .iload_n 3, 1), (37, .iconst 3, 1), (38, .iadd, 1), (39, .iaload, 1), (40, .iastore, 1), (41, .iinc 3 1, 3), (44, .goto (-37), 3), (47, .aload_n 0, 1), (48, .getfield 7, 3), (51, .bipush 67, 2), (53, .iload_n 1, 1), (54, .iadd, 1), (55, .aload_n 0, 1), (56, .getfield 7, 3), (59, .bipush 67, 2), (61, .iload_n 1, 1), (62, .iadd, 1), (63, .iaload, 1), (64, .iconst 1, 1), (65, .isub, 1), (66, .iastore, 1), (67, .return_, 1)]
theorem dt_X12_goesRule : wg_dc cX12_goesRule tb_X12_goesRule := by unfold wg_dc; decide +kernel
def f_X12_goesRule_7  : Nat → Nat → Int32 → Int32 → wg_M → Option (Int32 × wg_M)
  | 0, _, _, _, _ => none
  | n + 1, x0, x1, x3, σ => wg_ga (wg_n Sm (wg_r Sm x0 1)) (σ (wg_r Sm x0 1)) ((67 : Int32) + x1) (fun v1 => wg_bd (f_X12_ruleAt x0 x1 (v1 - (1 : Int32)) σ) (fun v2 s3 => if v2 ≤ x3 then (wg_ga (wg_n Sm (wg_r Sm x0 1)) (s3 (wg_r Sm x0 1)) ((67 : Int32) + x1) (fun v4 => wg_sa (wg_n Sm (wg_r Sm x0 1)) s3 (wg_r Sm x0 1) ((67 : Int32) + x1) (v4 - (1 : Int32)) (fun s5 => some (0, s5)))) else (wg_ga (wg_n Sm (wg_r Sm x0 1)) (s3 (wg_r Sm x0 1)) (x3 + (3 : Int32)) (fun v6 => wg_sa (wg_n Sm (wg_r Sm x0 1)) s3 (wg_r Sm x0 1) x3 v6 (fun s7 => wg_let (x3 + (1 : Int32)) (fun v8 => f_X12_goesRule_7  n x0 x1 v8 s7))))))
def f_X12_goesRule  (x0 : Nat) (x1 : Int32) (x2 : Int32) (σ : wg_M) : Option (Int32 × wg_M) := wg_bd (f_X12_ruleAt x0 x1 x2 σ) (fun v1 s2 => f_X12_goesRule_7  wg_N x0 x1 v1 s2)
set_option maxRecDepth 20000 in
theorem g_X12_goesRule_7 (l : Launch) (E : wg_E)  (z : Int32 × wg_M) : ∀ (n : Nat) (x0 : Nat) (x1 : Int32) (x3 : Int32) (σ : wg_M) (hx0 : wg_t Sm x0 = 14) (h : f_X12_goesRule_7  n x0 x1 x3 σ = some z), wg_G l E Sm "WornWigsModel" cX12_goesRule 4 none rm_X12_goesRule none z.2 7 [some (.ref x0), some (.int x1), none, some (.int x3)] [] σ := by
  intro n
  induction n with
  | zero => intro x0 x1 x3 σ hx0 h; cases h
  | succ n ih =>
    intro x0 x1 x3 σ hx0 h
    refine wr_iload_n (wg_da dt_X12_goesRule 5 rfl) rfl ?_
    refine wr_aload_n (wg_da dt_X12_goesRule 6 rfl) rfl ?_
    refine wr_iload_n (wg_da dt_X12_goesRule 7 rfl) rfl ?_
    refine wr_aload_n (wg_da dt_X12_goesRule 8 rfl) rfl ?_
    refine wr_getR wf_X12_7 (wg_da dt_X12_goesRule 9 rfl) hx0 ?_
    refine wr_bipush (67 : Int32) (wg_da dt_X12_goesRule 10 rfl) (by decide) ?_
    refine wr_iload_n (wg_da dt_X12_goesRule 11 rfl) rfl ?_
    refine wr_iadd (wg_da dt_X12_goesRule 12 rfl) ?_
    refine wr_iald (wg_da dt_X12_goesRule 13 rfl) (wg_ty Sm_ok 12 1 0 hx0 rfl (by decide)).2 h (fun v1 h => ?_)
    refine wr_iconst (1 : Int32) (wg_da dt_X12_goesRule 14 rfl) (by decide) ?_
    refine wr_isub (wg_da dt_X12_goesRule 15 rfl) ?_
    refine wr_callVi [.int x1, .int (v1 - (1 : Int32))] [.int x3] (wg_da dt_X12_goesRule 16 rfl) ⟨wq_7_106, wq_7_108, wq_p4_6⟩ hx0 ⟨rfl, by decide⟩ wy_X12_ruleAt (fun q hq => m_X12_ruleAt l E x0 x1 (v1 - (1 : Int32)) hx0 _ q hq) rfl rfl (Nat.le_of_ble_eq_true rfl) ⟨rfl, rfl, by decide, by decide⟩ h (fun v2 s3 h => ?_)
    refine wr_icmp_ge 47 (wg_da dt_X12_goesRule 17 rfl) (by decide) h (fun h => ?_) (fun h => ?_)
    · refine wr_aload_n (wg_da dt_X12_goesRule 30 rfl) rfl ?_
      refine wr_getR wf_X12_7 (wg_da dt_X12_goesRule 31 rfl) hx0 ?_
      refine wr_bipush (67 : Int32) (wg_da dt_X12_goesRule 32 rfl) (by decide) ?_
      refine wr_iload_n (wg_da dt_X12_goesRule 33 rfl) rfl ?_
      refine wr_iadd (wg_da dt_X12_goesRule 34 rfl) ?_
      refine wr_aload_n (wg_da dt_X12_goesRule 35 rfl) rfl ?_
      refine wr_getR wf_X12_7 (wg_da dt_X12_goesRule 36 rfl) hx0 ?_
      refine wr_bipush (67 : Int32) (wg_da dt_X12_goesRule 37 rfl) (by decide) ?_
      refine wr_iload_n (wg_da dt_X12_goesRule 38 rfl) rfl ?_
      refine wr_iadd (wg_da dt_X12_goesRule 39 rfl) ?_
      refine wr_iald (wg_da dt_X12_goesRule 40 rfl) (wg_ty Sm_ok 12 1 0 hx0 rfl (by decide)).2 h (fun v4 h => ?_)
      refine wr_iconst (1 : Int32) (wg_da dt_X12_goesRule 41 rfl) (by decide) ?_
      refine wr_isub (wg_da dt_X12_goesRule 42 rfl) ?_
      refine wr_iast (wg_da dt_X12_goesRule 43 rfl) (wg_ty Sm_ok 12 1 0 hx0 rfl (by decide)).2 h (fun s5 h => ?_)
      exact wr_vret (wg_da dt_X12_goesRule 44 rfl) h
    · refine wr_aload_n (wg_da dt_X12_goesRule 18 rfl) rfl ?_
      refine wr_getR wf_X12_7 (wg_da dt_X12_goesRule 19 rfl) hx0 ?_
      refine wr_iload_n (wg_da dt_X12_goesRule 20 rfl) rfl ?_
      refine wr_aload_n (wg_da dt_X12_goesRule 21 rfl) rfl ?_
      refine wr_getR wf_X12_7 (wg_da dt_X12_goesRule 22 rfl) hx0 ?_
      refine wr_iload_n (wg_da dt_X12_goesRule 23 rfl) rfl ?_
      refine wr_iconst (3 : Int32) (wg_da dt_X12_goesRule 24 rfl) (by decide) ?_
      refine wr_iadd (wg_da dt_X12_goesRule 25 rfl) ?_
      refine wr_iald (wg_da dt_X12_goesRule 26 rfl) (wg_ty Sm_ok 12 1 0 hx0 rfl (by decide)).2 h (fun v6 h => ?_)
      refine wr_iast (wg_da dt_X12_goesRule 27 rfl) (wg_ty Sm_ok 12 1 0 hx0 rfl (by decide)).2 h (fun s7 h => ?_)
      refine wr_iinc (c0 := (1 : Int32)) (wg_da dt_X12_goesRule 28 rfl) rfl (by decide) (by decide) h (fun v8 h => ?_)
      refine wr_goto 7 (wg_da dt_X12_goesRule 29 rfl) (by decide) ?_
      exact wr_wk [true, true, false, true] (ih x0 x1 v8 s7 hx0 h)
set_option maxRecDepth 20000 in
theorem g_X12_goesRule_e (l : Launch) (E : wg_E)  (x0 : Nat) (x1 : Int32) (x2 : Int32) (σ : wg_M) (z : Int32 × wg_M) (hx0 : wg_t Sm x0 = 14) (h : f_X12_goesRule  x0 x1 x2 σ = some z) : wg_G l E Sm "WornWigsModel" cX12_goesRule 4 none rm_X12_goesRule none z.2 0 [some (.ref x0), some (.int x1), some (.int x2), none] [] σ := by
  refine wr_aload_n (wg_da dt_X12_goesRule 0 rfl) rfl ?_
  refine wr_iload_n (wg_da dt_X12_goesRule 1 rfl) rfl ?_
  refine wr_iload_n (wg_da dt_X12_goesRule 2 rfl) rfl ?_
  refine wr_callVi [.int x1, .int x2] [] (wg_da dt_X12_goesRule 3 rfl) ⟨wq_7_106, wq_7_108, wq_p4_6⟩ hx0 ⟨rfl, by decide⟩ wy_X12_ruleAt (fun q hq => m_X12_ruleAt l E x0 x1 x2 hx0 _ q hq) rfl rfl (Nat.le_of_ble_eq_true rfl) ⟨rfl, rfl, by decide, by decide⟩ h (fun v1 s2 h => ?_)
  refine wr_istore_n (wg_da dt_X12_goesRule 4 rfl) (by decide) ?_
  exact wr_wk [true, true, false, true] (g_X12_goesRule_7 l E  _  wg_N x0 x1 v1 s2 hx0 h)
theorem m_X12_goesRule (l : Launch) (E : wg_E) (x0 : Nat) (x1 : Int32) (x2 : Int32) (hx0 : wg_t Sm x0 = 14) (σ : wg_M) (q : Int32 × wg_M) (h : f_X12_goesRule x0 x1 x2 σ = some q) : wg_MG l E Sm yX12_goesRule cX12_goesRule 4 none rm_X12_goesRule [.ref x0, .int x1, .int x2] σ none q.2 :=
  wg_met [.ref x0, .int x1, .int x2] (plainFor_of_name (by decide)) (Nat.le_of_ble_eq_true rfl) (g_X12_goesRule_e l E x0 x1 x2 σ q hx0 h)
abbrev rm_X12_comesRule : Room := { frames := 3, cells := 0, slots := 0, locals := 71 }
def tb_X12_comesRule : List (Nat × Instr × Nat) := [(0, .aload_n 0, 1), (1, .iload_n 1, 1), (2, .aload_n 0, 1), (3, .getfield 7, 3), (6, .bipush 67, 2), (8, .iload_n 1, 1), (9, .iadd, 1), (10, .iaload, 1), (11, .invokevirtual 138, 3), (14, .istore 5, 2), (16, .aload_n 0, 1), (17, .getfield 7, 3), (20, .iload 5, 2), (22, .iload_n 2, 1), (23, .iastore, 1), (24, .aload_n 0, 1), (25, .getfield 7, 3), (28, .iload 5, 2), (30, .iconst 1, 1), (31, .iadd, 1), (32, .iload_n 3, 1), (33, .iastore, 1), (34, .aload_n 0, 1), (35, .getfield 7, 3), (38, .iload 5, 2), (40, .iconst 2, 1), (41, .iadd, 1), (42, .iload 4, 2), (44, .iastore, 1), (45, .aload_n 0, 1), (46, .getfield 7, 3), (49, .bipush 67, 2), (51, .iload_n 1, 1), (52, .iadd, 1), (53, .aload_n 0, 1), (54, .getfield 7, 3), (57, .bipush 67, 2), (59, .iload_n 1, 1), (60, .iadd, 1), (61, .iaload, 1), (62, .iconst 1, 1), (63, .iadd, 1), (64, .iastore, 1), (65, .aload_n 0, 1), (66, .iload_n 1, 1), (67, .invokevirtual 149, 3), (70, .return_, 1)]
theorem dt_X12_comesRule : wg_dc cX12_comesRule tb_X12_comesRule := by unfold wg_dc; decide +kernel
def f_X12_comesRule  (x0 : Nat) (x1 : Int32) (x2 : Int32) (x3 : Int32) (x4 : Int32) (σ : wg_M) : Option (Int32 × wg_M) := wg_ga (wg_n Sm (wg_r Sm x0 1)) (σ (wg_r Sm x0 1)) ((67 : Int32) + x1) (fun v1 => wg_bd (f_X12_ruleAt x0 x1 v1 σ) (fun v2 s3 => wg_sa (wg_n Sm (wg_r Sm x0 1)) s3 (wg_r Sm x0 1) v2 x2 (fun s4 => wg_sa (wg_n Sm (wg_r Sm x0 1)) s4 (wg_r Sm x0 1) (v2 + (1 : Int32)) x3 (fun s5 => wg_sa (wg_n Sm (wg_r Sm x0 1)) s5 (wg_r Sm x0 1) (v2 + (2 : Int32)) x4 (fun s6 => wg_ga (wg_n Sm (wg_r Sm x0 1)) (s6 (wg_r Sm x0 1)) ((67 : Int32) + x1) (fun v7 => wg_sa (wg_n Sm (wg_r Sm x0 1)) s6 (wg_r Sm x0 1) ((67 : Int32) + x1) (v7 + (1 : Int32)) (fun s8 => wg_bd (f_X12_itches x0 x1 s8) (fun _ s9 => some (0, s9)))))))))
set_option maxRecDepth 20000 in
theorem g_X12_comesRule_e (l : Launch) (E : wg_E)  (x0 : Nat) (x1 : Int32) (x2 : Int32) (x3 : Int32) (x4 : Int32) (σ : wg_M) (z : Int32 × wg_M) (hx0 : wg_t Sm x0 = 14) (h : f_X12_comesRule  x0 x1 x2 x3 x4 σ = some z) : wg_G l E Sm "WornWigsModel" cX12_comesRule 6 none rm_X12_comesRule none z.2 0 [some (.ref x0), some (.int x1), some (.int x2), some (.int x3), some (.int x4), none] [] σ := by
  refine wr_aload_n (wg_da dt_X12_comesRule 0 rfl) rfl ?_
  refine wr_iload_n (wg_da dt_X12_comesRule 1 rfl) rfl ?_
  refine wr_aload_n (wg_da dt_X12_comesRule 2 rfl) rfl ?_
  refine wr_getR wf_X12_7 (wg_da dt_X12_comesRule 3 rfl) hx0 ?_
  refine wr_bipush (67 : Int32) (wg_da dt_X12_comesRule 4 rfl) (by decide) ?_
  refine wr_iload_n (wg_da dt_X12_comesRule 5 rfl) rfl ?_
  refine wr_iadd (wg_da dt_X12_comesRule 6 rfl) ?_
  refine wr_iald (wg_da dt_X12_comesRule 7 rfl) (wg_ty Sm_ok 12 1 0 hx0 rfl (by decide)).2 h (fun v1 h => ?_)
  refine wr_callVi [.int x1, .int v1] [] (wg_da dt_X12_comesRule 8 rfl) ⟨wq_7_106, wq_7_108, wq_p4_6⟩ hx0 ⟨rfl, by decide⟩ wy_X12_ruleAt (fun q hq => m_X12_ruleAt l E x0 x1 v1 hx0 _ q hq) rfl rfl (Nat.le_of_ble_eq_true rfl) ⟨rfl, rfl, by decide, by decide⟩ h (fun v2 s3 h => ?_)
  refine wr_istore (wg_da dt_X12_comesRule 9 rfl) (by decide) ?_
  refine wr_aload_n (wg_da dt_X12_comesRule 10 rfl) rfl ?_
  refine wr_getR wf_X12_7 (wg_da dt_X12_comesRule 11 rfl) hx0 ?_
  refine wr_iload (wg_da dt_X12_comesRule 12 rfl) rfl ?_
  refine wr_iload_n (wg_da dt_X12_comesRule 13 rfl) rfl ?_
  refine wr_iast (wg_da dt_X12_comesRule 14 rfl) (wg_ty Sm_ok 12 1 0 hx0 rfl (by decide)).2 h (fun s4 h => ?_)
  refine wr_aload_n (wg_da dt_X12_comesRule 15 rfl) rfl ?_
  refine wr_getR wf_X12_7 (wg_da dt_X12_comesRule 16 rfl) hx0 ?_
  refine wr_iload (wg_da dt_X12_comesRule 17 rfl) rfl ?_
  refine wr_iconst (1 : Int32) (wg_da dt_X12_comesRule 18 rfl) (by decide) ?_
  refine wr_iadd (wg_da dt_X12_comesRule 19 rfl) ?_
  refine wr_iload_n (wg_da dt_X12_comesRule 20 rfl) rfl ?_
  refine wr_iast (wg_da dt_X12_comesRule 21 rfl) (wg_ty Sm_ok 12 1 0 hx0 rfl (by decide)).2 h (fun s5 h => ?_)
  refine wr_aload_n (wg_da dt_X12_comesRule 22 rfl) rfl ?_
  refine wr_getR wf_X12_7 (wg_da dt_X12_comesRule 23 rfl) hx0 ?_
  refine wr_iload (wg_da dt_X12_comesRule 24 rfl) rfl ?_
  refine wr_iconst (2 : Int32) (wg_da dt_X12_comesRule 25 rfl) (by decide) ?_
  refine wr_iadd (wg_da dt_X12_comesRule 26 rfl) ?_
  refine wr_iload (wg_da dt_X12_comesRule 27 rfl) rfl ?_
  refine wr_iast (wg_da dt_X12_comesRule 28 rfl) (wg_ty Sm_ok 12 1 0 hx0 rfl (by decide)).2 h (fun s6 h => ?_)
  refine wr_aload_n (wg_da dt_X12_comesRule 29 rfl) rfl ?_
  refine wr_getR wf_X12_7 (wg_da dt_X12_comesRule 30 rfl) hx0 ?_
  refine wr_bipush (67 : Int32) (wg_da dt_X12_comesRule 31 rfl) (by decide) ?_
  refine wr_iload_n (wg_da dt_X12_comesRule 32 rfl) rfl ?_
  refine wr_iadd (wg_da dt_X12_comesRule 33 rfl) ?_
  refine wr_aload_n (wg_da dt_X12_comesRule 34 rfl) rfl ?_
  refine wr_getR wf_X12_7 (wg_da dt_X12_comesRule 35 rfl) hx0 ?_
  refine wr_bipush (67 : Int32) (wg_da dt_X12_comesRule 36 rfl) (by decide) ?_
  refine wr_iload_n (wg_da dt_X12_comesRule 37 rfl) rfl ?_
  refine wr_iadd (wg_da dt_X12_comesRule 38 rfl) ?_
  refine wr_iald (wg_da dt_X12_comesRule 39 rfl) (wg_ty Sm_ok 12 1 0 hx0 rfl (by decide)).2 h (fun v7 h => ?_)
  refine wr_iconst (1 : Int32) (wg_da dt_X12_comesRule 40 rfl) (by decide) ?_
  refine wr_iadd (wg_da dt_X12_comesRule 41 rfl) ?_
  refine wr_iast (wg_da dt_X12_comesRule 42 rfl) (wg_ty Sm_ok 12 1 0 hx0 rfl (by decide)).2 h (fun s8 h => ?_)
  refine wr_aload_n (wg_da dt_X12_comesRule 43 rfl) rfl ?_
  refine wr_iload_n (wg_da dt_X12_comesRule 44 rfl) rfl ?_
  refine wr_callVv [.int x1] [] (wg_da dt_X12_comesRule 45 rfl) ⟨wq_7_110, wq_7_112, wq_p4_7⟩ hx0 ⟨rfl, by decide⟩ wy_X12_itches (fun q hq => m_X12_itches l E x0 x1 hx0 _ q hq) rfl rfl (Nat.le_of_ble_eq_true rfl) ⟨rfl, rfl, by decide, by decide⟩ h (fun _ s9 h => ?_)
  exact wr_vret (wg_da dt_X12_comesRule 46 rfl) h
theorem m_X12_comesRule (l : Launch) (E : wg_E) (x0 : Nat) (x1 : Int32) (x2 : Int32) (x3 : Int32) (x4 : Int32) (hx0 : wg_t Sm x0 = 14) (σ : wg_M) (q : Int32 × wg_M) (h : f_X12_comesRule x0 x1 x2 x3 x4 σ = some q) : wg_MG l E Sm yX12_comesRule cX12_comesRule 6 none rm_X12_comesRule [.ref x0, .int x1, .int x2, .int x3, .int x4] σ none q.2 :=
  wg_met [.ref x0, .int x1, .int x2, .int x3, .int x4] (plainFor_of_name (by decide)) (Nat.le_of_ble_eq_true rfl) (g_X12_comesRule_e l E x0 x1 x2 x3 x4 σ q hx0 h)
abbrev rm_X12_wig : Room := { frames := 1, cells := 0, slots := 0, locals := 23 }
def tb_X12_wig : List (Nat × Instr × Nat) := [(0, .aload_n 0, 1), (1, .iconst 0, 1), (2, .putfield 113, 3), (5, .aload_n 0, 1), (6, .iload_n 1, 1), (7, .iconst 0, 1), (8, .iconst 2, 1), (9, .invokevirtual 153, 3), (12, .ifCond .eq 23, 3), (15, .aload_n 0, 1), (16, .iload_n 2, 1), (17, .iconst 0, 1), (18, .bipush 99, 2), (20, .invokevirtual 153, 3), (23, .ifCond .eq 12, 3), (26, .aload_n 0, 1), (27, .getfield 125, 3), (30, .bipush 8, 2), (32, .if_icmp .ne 5, 3), (35, .iconst (-1), 1), (36, .ireturn, 1), (37, .aload_n 0, 1), (38, .getfield 19, 3), (41, .aload_n 0, 1), (42, .getfield 125, 3), (45, .iload_n 1, 1), (46, .iastore, 1), (47, .aload_n 0, 1), (48, .getfield 7, 3), (51, .bipush 43, 2), (53, .aload_n 0, 1), (54, .getfield 125, 3), (57, .iadd, 1), (58, .iload_n 2, 1), (59, .iastore, 1), (60, .aload_n 0, 1), (61, .getfield 7, 3), (64, .bipush 51, 2), (66, .aload_n 0, 1), (67, .getfield 125, 3), (70, .iadd, 1), (71, .iconst 0, 1), (72, .iastore, 1), (73, .aload_n 0, 1), (74, .getfield 7, 3), (77, .bipush 59, 2), (79, .aload_n 0, 1), (80, .getfield 125, 3), (83, .iadd, 1), (84, .iconst 0, 1), (85, .iastore, 1), (86, .aload_n 0, 1), (87, .getfield 7, 3), (90, .bipush 67, 2), (92, .aload_n 0, 1), (93, .getfield 125, 3), (96, .iadd, 1), (97, .iconst 0, 1), (98, .iastore, 1), (99, .aload_n 0, 1), (100, .aload_n 0, 1), (101, .getfield 125, 3), (104, .iconst 1, 1), (105, .iadd, 1), (106, .putfield 125, 3), (109, .aload_n 0, 1), (110, .iconst 0, 1), (111, .putfield 116, 3), (114, .aload_n 0, 1), (115, .getfield 125, 3), (118, .iconst 1, 1), (119, .isub, 1), (120, .ireturn, 1)]
theorem dt_X12_wig : wg_dc cX12_wig tb_X12_wig := by unfold wg_dc; decide +kernel
def f_X12_wig  (x0 : Nat) (x1 : Int32) (x2 : Int32) (σ : wg_M) : Option (Int32 × wg_M) := wg_st σ x0 0 (0 : Int32) (fun s1 => wg_bd (f_X12_isIn x0 x1 (0 : Int32) (2 : Int32) s1) (fun v2 s3 => if v2 = 0 then (some ((-1 : Int32), s3)) else (wg_bd (f_X12_isIn x0 x2 (0 : Int32) (99 : Int32) s3) (fun v4 s5 => if v4 = 0 then (some ((-1 : Int32), s5)) else (if (s5 x0 6) = (8 : Int32) then (some ((-1 : Int32), s5)) else (wg_sa (wg_n Sm (wg_r Sm x0 9)) s5 (wg_r Sm x0 9) (s5 x0 6) x1 (fun s6 => wg_sa (wg_n Sm (wg_r Sm x0 1)) s6 (wg_r Sm x0 1) ((43 : Int32) + (s6 x0 6)) x2 (fun s7 => wg_sa (wg_n Sm (wg_r Sm x0 1)) s7 (wg_r Sm x0 1) ((51 : Int32) + (s7 x0 6)) (0 : Int32) (fun s8 => wg_sa (wg_n Sm (wg_r Sm x0 1)) s8 (wg_r Sm x0 1) ((59 : Int32) + (s8 x0 6)) (0 : Int32) (fun s9 => wg_sa (wg_n Sm (wg_r Sm x0 1)) s9 (wg_r Sm x0 1) ((67 : Int32) + (s9 x0 6)) (0 : Int32) (fun s10 => wg_st s10 x0 6 ((s10 x0 6) + (1 : Int32)) (fun s11 => wg_st s11 x0 3 (0 : Int32) (fun s12 => some ((s12 x0 6) - (1 : Int32), s12))))))))))))))
set_option maxRecDepth 20000 in
theorem g_X12_wig_e (l : Launch) (E : wg_E)  (x0 : Nat) (x1 : Int32) (x2 : Int32) (σ : wg_M) (z : Int32 × wg_M) (hx0 : wg_t Sm x0 = 14) (h : f_X12_wig  x0 x1 x2 σ = some z) : wg_G l E Sm "WornWigsModel" cX12_wig 3 (some .int) rm_X12_wig (some z.1) z.2 0 [some (.ref x0), some (.int x1), some (.int x2)] [] σ := by
  refine wr_aload_n (wg_da dt_X12_wig 0 rfl) rfl ?_
  refine wr_iconst (0 : Int32) (wg_da dt_X12_wig 1 rfl) (by decide) ?_
  refine wr_putI wfp_X12_113 (wg_da dt_X12_wig 2 rfl) hx0 h (fun s1 h => ?_)
  refine wr_aload_n (wg_da dt_X12_wig 3 rfl) rfl ?_
  refine wr_iload_n (wg_da dt_X12_wig 4 rfl) rfl ?_
  refine wr_iconst (0 : Int32) (wg_da dt_X12_wig 5 rfl) (by decide) ?_
  refine wr_iconst (2 : Int32) (wg_da dt_X12_wig 6 rfl) (by decide) ?_
  refine wr_callVi [.int x1, .int (0 : Int32), .int (2 : Int32)] [] (wg_da dt_X12_wig 7 rfl) ⟨wq_7_82, wq_7_84, wq_p4_3⟩ hx0 ⟨rfl, by decide⟩ wy_X12_isIn (fun q hq => m_X12_isIn l E x0 x1 (0 : Int32) (2 : Int32) hx0 _ q hq) rfl rfl (Nat.le_of_ble_eq_true rfl) ⟨rfl, rfl, by decide, by decide⟩ h (fun v2 s3 h => ?_)
  refine wr_if_eq 35 (wg_da dt_X12_wig 8 rfl) (by decide) h (fun h => ?_) (fun h => ?_)
  · refine wr_iconst (-1 : Int32) (wg_da dt_X12_wig 19 rfl) (by decide) ?_
    exact wr_iret (wg_da dt_X12_wig 20 rfl) h
  · refine wr_aload_n (wg_da dt_X12_wig 9 rfl) rfl ?_
    refine wr_iload_n (wg_da dt_X12_wig 10 rfl) rfl ?_
    refine wr_iconst (0 : Int32) (wg_da dt_X12_wig 11 rfl) (by decide) ?_
    refine wr_bipush (99 : Int32) (wg_da dt_X12_wig 12 rfl) (by decide) ?_
    refine wr_callVi [.int x2, .int (0 : Int32), .int (99 : Int32)] [] (wg_da dt_X12_wig 13 rfl) ⟨wq_7_82, wq_7_84, wq_p4_3⟩ hx0 ⟨rfl, by decide⟩ wy_X12_isIn (fun q hq => m_X12_isIn l E x0 x2 (0 : Int32) (99 : Int32) hx0 _ q hq) rfl rfl (Nat.le_of_ble_eq_true rfl) ⟨rfl, rfl, by decide, by decide⟩ h (fun v4 s5 h => ?_)
    refine wr_if_eq 35 (wg_da dt_X12_wig 14 rfl) (by decide) h (fun h => ?_) (fun h => ?_)
    · refine wr_iconst (-1 : Int32) (wg_da dt_X12_wig 19 rfl) (by decide) ?_
      exact wr_iret (wg_da dt_X12_wig 20 rfl) h
    · refine wr_aload_n (wg_da dt_X12_wig 15 rfl) rfl ?_
      refine wr_getI wf_X12_125 (wg_da dt_X12_wig 16 rfl) hx0 ?_
      refine wr_bipush (8 : Int32) (wg_da dt_X12_wig 17 rfl) (by decide) ?_
      refine wr_icmp_ne 37 (wg_da dt_X12_wig 18 rfl) (by decide) h (fun h => ?_) (fun h => ?_)
      · refine wr_iconst (-1 : Int32) (wg_da dt_X12_wig 19 rfl) (by decide) ?_
        exact wr_iret (wg_da dt_X12_wig 20 rfl) h
      · refine wr_aload_n (wg_da dt_X12_wig 21 rfl) rfl ?_
        refine wr_getR wf_X12_19 (wg_da dt_X12_wig 22 rfl) hx0 ?_
        refine wr_aload_n (wg_da dt_X12_wig 23 rfl) rfl ?_
        refine wr_getI wf_X12_125 (wg_da dt_X12_wig 24 rfl) hx0 ?_
        refine wr_iload_n (wg_da dt_X12_wig 25 rfl) rfl ?_
        refine wr_iast (wg_da dt_X12_wig 26 rfl) (wg_ty Sm_ok 12 9 0 hx0 rfl (by decide)).2 h (fun s6 h => ?_)
        refine wr_aload_n (wg_da dt_X12_wig 27 rfl) rfl ?_
        refine wr_getR wf_X12_7 (wg_da dt_X12_wig 28 rfl) hx0 ?_
        refine wr_bipush (43 : Int32) (wg_da dt_X12_wig 29 rfl) (by decide) ?_
        refine wr_aload_n (wg_da dt_X12_wig 30 rfl) rfl ?_
        refine wr_getI wf_X12_125 (wg_da dt_X12_wig 31 rfl) hx0 ?_
        refine wr_iadd (wg_da dt_X12_wig 32 rfl) ?_
        refine wr_iload_n (wg_da dt_X12_wig 33 rfl) rfl ?_
        refine wr_iast (wg_da dt_X12_wig 34 rfl) (wg_ty Sm_ok 12 1 0 hx0 rfl (by decide)).2 h (fun s7 h => ?_)
        refine wr_aload_n (wg_da dt_X12_wig 35 rfl) rfl ?_
        refine wr_getR wf_X12_7 (wg_da dt_X12_wig 36 rfl) hx0 ?_
        refine wr_bipush (51 : Int32) (wg_da dt_X12_wig 37 rfl) (by decide) ?_
        refine wr_aload_n (wg_da dt_X12_wig 38 rfl) rfl ?_
        refine wr_getI wf_X12_125 (wg_da dt_X12_wig 39 rfl) hx0 ?_
        refine wr_iadd (wg_da dt_X12_wig 40 rfl) ?_
        refine wr_iconst (0 : Int32) (wg_da dt_X12_wig 41 rfl) (by decide) ?_
        refine wr_iast (wg_da dt_X12_wig 42 rfl) (wg_ty Sm_ok 12 1 0 hx0 rfl (by decide)).2 h (fun s8 h => ?_)
        refine wr_aload_n (wg_da dt_X12_wig 43 rfl) rfl ?_
        refine wr_getR wf_X12_7 (wg_da dt_X12_wig 44 rfl) hx0 ?_
        refine wr_bipush (59 : Int32) (wg_da dt_X12_wig 45 rfl) (by decide) ?_
        refine wr_aload_n (wg_da dt_X12_wig 46 rfl) rfl ?_
        refine wr_getI wf_X12_125 (wg_da dt_X12_wig 47 rfl) hx0 ?_
        refine wr_iadd (wg_da dt_X12_wig 48 rfl) ?_
        refine wr_iconst (0 : Int32) (wg_da dt_X12_wig 49 rfl) (by decide) ?_
        refine wr_iast (wg_da dt_X12_wig 50 rfl) (wg_ty Sm_ok 12 1 0 hx0 rfl (by decide)).2 h (fun s9 h => ?_)
        refine wr_aload_n (wg_da dt_X12_wig 51 rfl) rfl ?_
        refine wr_getR wf_X12_7 (wg_da dt_X12_wig 52 rfl) hx0 ?_
        refine wr_bipush (67 : Int32) (wg_da dt_X12_wig 53 rfl) (by decide) ?_
        refine wr_aload_n (wg_da dt_X12_wig 54 rfl) rfl ?_
        refine wr_getI wf_X12_125 (wg_da dt_X12_wig 55 rfl) hx0 ?_
        refine wr_iadd (wg_da dt_X12_wig 56 rfl) ?_
        refine wr_iconst (0 : Int32) (wg_da dt_X12_wig 57 rfl) (by decide) ?_
        refine wr_iast (wg_da dt_X12_wig 58 rfl) (wg_ty Sm_ok 12 1 0 hx0 rfl (by decide)).2 h (fun s10 h => ?_)
        refine wr_aload_n (wg_da dt_X12_wig 59 rfl) rfl ?_
        refine wr_aload_n (wg_da dt_X12_wig 60 rfl) rfl ?_
        refine wr_getI wf_X12_125 (wg_da dt_X12_wig 61 rfl) hx0 ?_
        refine wr_iconst (1 : Int32) (wg_da dt_X12_wig 62 rfl) (by decide) ?_
        refine wr_iadd (wg_da dt_X12_wig 63 rfl) ?_
        refine wr_putI wfp_X12_125 (wg_da dt_X12_wig 64 rfl) hx0 h (fun s11 h => ?_)
        refine wr_aload_n (wg_da dt_X12_wig 65 rfl) rfl ?_
        refine wr_iconst (0 : Int32) (wg_da dt_X12_wig 66 rfl) (by decide) ?_
        refine wr_putI wfp_X12_116 (wg_da dt_X12_wig 67 rfl) hx0 h (fun s12 h => ?_)
        refine wr_aload_n (wg_da dt_X12_wig 68 rfl) rfl ?_
        refine wr_getI wf_X12_125 (wg_da dt_X12_wig 69 rfl) hx0 ?_
        refine wr_iconst (1 : Int32) (wg_da dt_X12_wig 70 rfl) (by decide) ?_
        refine wr_isub (wg_da dt_X12_wig 71 rfl) ?_
        exact wr_iret (wg_da dt_X12_wig 72 rfl) h
theorem m_X12_wig (l : Launch) (E : wg_E) (x0 : Nat) (x1 : Int32) (x2 : Int32) (hx0 : wg_t Sm x0 = 14) (σ : wg_M) (q : Int32 × wg_M) (h : f_X12_wig x0 x1 x2 σ = some q) : wg_MG l E Sm yX12_wig cX12_wig 3 (some .int) rm_X12_wig [.ref x0, .int x1, .int x2] σ (some q.1) q.2 :=
  wg_met [.ref x0, .int x1, .int x2] (plainFor_of_name (by decide)) (Nat.le_of_ble_eq_true rfl) (g_X12_wig_e l E x0 x1 x2 σ q hx0 h)

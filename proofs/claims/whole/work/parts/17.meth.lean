abbrev rm_X12_readLaw : Room := { frames := 8, cells := 0, slots := 0, locals := 172 }
def tb_X12_readLaw : List (Nat × Instr × Nat) := [(0, .iconst 0, 1), (1, .istore_n 1, 1), (2, .aload_n 0, 1), (3, .invokevirtual 259, 3), (6, .ifCond .eq 122, 3), (9, .iload_n 1, 1), (10, .bipush 16, 2), (12, .if_icmp .ne 9, 3), (15, .aload_n 0, 1), (16, .iconst 3, 1), (17, .invokevirtual 218, 3), (20, .ireturn, 1), (21, .bipush 32, 2), (23, .iload_n 1, 1), (24, .iadd, 1), (25, .istore_n 2, 1), (26, .aload_n 0, 1), (27, .getfield 43, 3), (30, .iload_n 2, 1), (31, .aload_n 0, 1), (32, .getfield 191, 3), (35, .iastore, 1), (36, .aload_n 0, 1), (37, .invokevirtual 225, 3), (40, .aload_n 0, 1), (41, .getfield 46, 3), (44, .iload_n 2, 1), (45, .aload_n 0, 1), (46, .getfield 212, 3), (49, .iastore, 1), (50, .aload_n 0, 1), (51, .invokevirtual 238, 3), (54, .iconst (-1), 1), (55, .if_icmp .ne 5, 3), (58, .iconst (-1), 1), (59, .ireturn, 1), (60, .aload_n 0, 1), (61, .getfield 49, 3), (64, .iload_n 2, 1), (65, .aload_n 0, 1), (66, .getfield 212, 3), (69, .iastore, 1), (70, .aload_n 0, 1), (71, .iconst 3, 1), (72, .invokevirtual 247, 3), (75, .ifCond .eq 17, 3), (78, .aload_n 0, 1), (79, .invokevirtual 225, 3), (82, .aload_n 0, 1), (83, .invokevirtual 263, 3), (86, .iconst (-1), 1), (87, .if_icmp .ne 5, 3), (90, .iconst (-1), 1), (91, .ireturn, 1), (92, .aload_n 0, 1), (93, .getfield 52, 3), (96, .iload_n 2, 1), (97, .aload_n 0, 1), (98, .getfield 212, 3), (101, .iastore, 1), (102, .aload_n 0, 1), (103, .bipush 59, 2), (105, .invokevirtual 232, 3), (108, .ifCond .ne 9, 3), (111, .aload_n 0, 1), (112, .iconst 1, 1), (113, .invokevirtual 218, 3), (116, .ireturn, 1), (117, .aload_n 0, 1), (118, .invokevirtual 225, 3), (121, .iload_n 1, 1), (122, .iconst 1, 1), (123, .iadd, 1), (124, .istore_n 1, 1), (125, .goto (-123), 3), (128, .aload_n 0, 1), (129, .getfield 188, 3), (132, .ifCond .ne 7, 3), (135, .iload_n 1, 1), (136, .goto 8, 3), (139, .aload_n 0, 1), (140, .iconst 1, 1), (141, .invokevirtual 218, 3), (144, .ireturn, 1)]
theorem dt_X12_readLaw : wg_dc cX12_readLaw tb_X12_readLaw := by unfold wg_dc; decide +kernel
def f_X12_readLaw_92 (k2 : Nat → Int32 → wg_M → Option (Int32 × wg_M)) (x0 : Nat) (x1 : Int32) (x2 : Int32) (σ : wg_M) : Option (Int32 × wg_M) := wg_sa (wg_n Sm (wg_r Sm x0 25)) σ (wg_r Sm x0 25) x2 (σ x0 29) (fun s1 => wg_bd (f_X12_isSign x0 (59 : Int32) s1) (fun v2 s3 => if v2 = 0 then (wg_bd (f_X12_errs x0 (1 : Int32) s3) (fun v6 s7 => some (v6, s7))) else (wg_bd (f_X12_reads x0 s3) (fun _ s4 => wg_let (x1 + (1 : Int32)) (fun v5 => k2 x0 v5 s4)))))
def f_X12_readLaw_2  : Nat → Nat → Int32 → wg_M → Option (Int32 × wg_M)
  | 0, _, _, _ => none
  | n + 1, x0, x1, σ => wg_bd (f_X12_isLineWord x0 σ) (fun v1 s2 => if v1 = 0 then (if (s2 x0 18) = 0 then (some (x1, s2)) else (wg_bd (f_X12_errs x0 (1 : Int32) s2) (fun v3 s4 => some (v3, s4)))) else (if x1 = (16 : Int32) then (wg_bd (f_X12_errs x0 (3 : Int32) s2) (fun v17 s18 => some (v17, s18))) else (wg_let ((32 : Int32) + x1) (fun v5 => wg_sa (wg_n Sm (wg_r Sm x0 22)) s2 (wg_r Sm x0 22) v5 (s2 x0 19) (fun s6 => wg_bd (f_X12_reads x0 s6) (fun _ s7 => wg_sa (wg_n Sm (wg_r Sm x0 23)) s7 (wg_r Sm x0 23) v5 (s7 x0 29) (fun s8 => wg_bd (f_X12_readSum x0 s8) (fun v9 s10 => if v9 = (-1 : Int32) then (some ((-1 : Int32), s10)) else (wg_sa (wg_n Sm (wg_r Sm x0 24)) s10 (wg_r Sm x0 24) v5 (s10 x0 29) (fun s11 => wg_bd (f_X12_isWord x0 (3 : Int32) s11) (fun v12 s13 => if v12 = 0 then (f_X12_readLaw_92 (f_X12_readLaw_2  n) x0 x1 v5 s13) else (wg_bd (f_X12_reads x0 s13) (fun _ s14 => wg_bd (f_X12_readAny x0 s14) (fun v15 s16 => if v15 = (-1 : Int32) then (some ((-1 : Int32), s16)) else (f_X12_readLaw_92 (f_X12_readLaw_2  n) x0 x1 v5 s16)))))))))))))))
def f_X12_readLaw  (x0 : Nat) (σ : wg_M) : Option (Int32 × wg_M) := f_X12_readLaw_2  wg_N x0 (0 : Int32) σ
set_option maxRecDepth 20000 in
theorem g_X12_readLaw_92 (l : Launch) (E : wg_E) (k2 : Nat → Int32 → wg_M → Option (Int32 × wg_M)) (x0 : Nat) (x1 : Int32) (x2 : Int32) (σ : wg_M) (z : Int32 × wg_M) (hx0 : wg_t Sm x0 = 14) (hk2 : ∀ (x0 : Nat) (x1 : Int32) (σ : wg_M), wg_t Sm x0 = 14 → k2 x0 x1 σ = some z → wg_G l E Sm "WornWigsModel" cX12_readLaw 3 (some .int) rm_X12_readLaw (some z.1) z.2 2 [some (.ref x0), some (.int x1), none] [] σ) (h : f_X12_readLaw_92 k2 x0 x1 x2 σ = some z) : wg_G l E Sm "WornWigsModel" cX12_readLaw 3 (some .int) rm_X12_readLaw (some z.1) z.2 92 [some (.ref x0), some (.int x1), some (.int x2)] [] σ := by
  refine wr_aload_n (wg_da dt_X12_readLaw 54 rfl) rfl ?_
  refine wr_getR wf_X12_52 (wg_da dt_X12_readLaw 55 rfl) hx0 ?_
  refine wr_iload_n (wg_da dt_X12_readLaw 56 rfl) rfl ?_
  refine wr_aload_n (wg_da dt_X12_readLaw 57 rfl) rfl ?_
  refine wr_getI wf_X12_212 (wg_da dt_X12_readLaw 58 rfl) hx0 ?_
  refine wr_iast (wg_da dt_X12_readLaw 59 rfl) (wg_ty Sm_ok 12 25 0 hx0 rfl (by decide)).2 h (fun s1 h => ?_)
  refine wr_aload_n (wg_da dt_X12_readLaw 60 rfl) rfl ?_
  refine wr_bipush (59 : Int32) (wg_da dt_X12_readLaw 61 rfl) (by decide) ?_
  refine wr_callVi [.int (59 : Int32)] [] (wg_da dt_X12_readLaw 62 rfl) ⟨wq_7_210, wq_7_212, wq_p5_12⟩ hx0 ⟨rfl, by decide⟩ wy_X12_isSign (fun q hq => m_X12_isSign l E x0 (59 : Int32) hx0 _ q hq) rfl rfl (Nat.le_of_ble_eq_true rfl) ⟨rfl, rfl, by decide, by decide⟩ h (fun v2 s3 h => ?_)
  refine wr_if_ne 117 (wg_da dt_X12_readLaw 63 rfl) (by decide) h (fun h => ?_) (fun h => ?_)
  · refine wr_aload_n (wg_da dt_X12_readLaw 64 rfl) rfl ?_
    refine wr_iconst (1 : Int32) (wg_da dt_X12_readLaw 65 rfl) (by decide) ?_
    refine wr_callVi [.int (1 : Int32)] [] (wg_da dt_X12_readLaw 66 rfl) ⟨wq_7_190, wq_7_192, wq_p5_7⟩ hx0 ⟨rfl, by decide⟩ wy_X12_errs (fun q hq => m_X12_errs l E x0 (1 : Int32) hx0 _ q hq) rfl rfl (Nat.le_of_ble_eq_true rfl) ⟨rfl, rfl, by decide, by decide⟩ h (fun v6 s7 h => ?_)
    exact wr_iret (wg_da dt_X12_readLaw 67 rfl) h
  · refine wr_aload_n (wg_da dt_X12_readLaw 68 rfl) rfl ?_
    refine wr_callVv [] [] (wg_da dt_X12_readLaw 69 rfl) ⟨wq_7_158, wq_7_160, wq_p4_15⟩ hx0 ⟨rfl, by decide⟩ wy_X12_reads (fun q hq => m_X12_reads l E x0 hx0 _ q hq) rfl rfl (Nat.le_of_ble_eq_true rfl) ⟨rfl, rfl, by decide, by decide⟩ h (fun _ s4 h => ?_)
    refine wr_iload_n (wg_da dt_X12_readLaw 70 rfl) rfl ?_
    refine wr_iconst (1 : Int32) (wg_da dt_X12_readLaw 71 rfl) (by decide) ?_
    refine wr_iadd (wg_da dt_X12_readLaw 72 rfl) ?_
    refine wr_let h (fun v5 h => ?_)
    refine wr_istore_n (wg_da dt_X12_readLaw 73 rfl) (by decide) ?_
    refine wr_goto 2 (wg_da dt_X12_readLaw 74 rfl) (by decide) ?_
    exact wr_wk [true, true, false] (hk2 x0 v5 s4 hx0 h)
set_option maxRecDepth 20000 in
theorem g_X12_readLaw_2 (l : Launch) (E : wg_E)  (z : Int32 × wg_M) : ∀ (n : Nat) (x0 : Nat) (x1 : Int32) (σ : wg_M) (hx0 : wg_t Sm x0 = 14) (h : f_X12_readLaw_2  n x0 x1 σ = some z), wg_G l E Sm "WornWigsModel" cX12_readLaw 3 (some .int) rm_X12_readLaw (some z.1) z.2 2 [some (.ref x0), some (.int x1), none] [] σ := by
  intro n
  induction n with
  | zero => intro x0 x1 σ hx0 h; cases h
  | succ n ih =>
    intro x0 x1 σ hx0 h
    refine wr_aload_n (wg_da dt_X12_readLaw 2 rfl) rfl ?_
    refine wr_callVi [] [] (wg_da dt_X12_readLaw 3 rfl) ⟨wq_8_2, wq_8_4, wq_p6_4⟩ hx0 ⟨rfl, by decide⟩ wy_X12_isLineWord (fun q hq => m_X12_isLineWord l E x0 hx0 _ q hq) rfl rfl (Nat.le_of_ble_eq_true rfl) ⟨rfl, rfl, by decide, by decide⟩ h (fun v1 s2 h => ?_)
    refine wr_if_eq 128 (wg_da dt_X12_readLaw 4 rfl) (by decide) h (fun h => ?_) (fun h => ?_)
    · refine wr_aload_n (wg_da dt_X12_readLaw 75 rfl) rfl ?_
      refine wr_getI wf_X12_188 (wg_da dt_X12_readLaw 76 rfl) hx0 ?_
      refine wr_if_ne 139 (wg_da dt_X12_readLaw 77 rfl) (by decide) h (fun h => ?_) (fun h => ?_)
      · refine wr_iload_n (wg_da dt_X12_readLaw 78 rfl) rfl ?_
        refine wr_goto 144 (wg_da dt_X12_readLaw 79 rfl) (by decide) ?_
        exact wr_iret (wg_da dt_X12_readLaw 83 rfl) h
      · refine wr_aload_n (wg_da dt_X12_readLaw 80 rfl) rfl ?_
        refine wr_iconst (1 : Int32) (wg_da dt_X12_readLaw 81 rfl) (by decide) ?_
        refine wr_callVi [.int (1 : Int32)] [] (wg_da dt_X12_readLaw 82 rfl) ⟨wq_7_190, wq_7_192, wq_p5_7⟩ hx0 ⟨rfl, by decide⟩ wy_X12_errs (fun q hq => m_X12_errs l E x0 (1 : Int32) hx0 _ q hq) rfl rfl (Nat.le_of_ble_eq_true rfl) ⟨rfl, rfl, by decide, by decide⟩ h (fun v3 s4 h => ?_)
        exact wr_iret (wg_da dt_X12_readLaw 83 rfl) h
    · refine wr_iload_n (wg_da dt_X12_readLaw 5 rfl) rfl ?_
      refine wr_bipush (16 : Int32) (wg_da dt_X12_readLaw 6 rfl) (by decide) ?_
      refine wr_icmp_ne 21 (wg_da dt_X12_readLaw 7 rfl) (by decide) h (fun h => ?_) (fun h => ?_)
      · refine wr_aload_n (wg_da dt_X12_readLaw 8 rfl) rfl ?_
        refine wr_iconst (3 : Int32) (wg_da dt_X12_readLaw 9 rfl) (by decide) ?_
        refine wr_callVi [.int (3 : Int32)] [] (wg_da dt_X12_readLaw 10 rfl) ⟨wq_7_190, wq_7_192, wq_p5_7⟩ hx0 ⟨rfl, by decide⟩ wy_X12_errs (fun q hq => m_X12_errs l E x0 (3 : Int32) hx0 _ q hq) rfl rfl (Nat.le_of_ble_eq_true rfl) ⟨rfl, rfl, by decide, by decide⟩ h (fun v17 s18 h => ?_)
        exact wr_iret (wg_da dt_X12_readLaw 11 rfl) h
      · refine wr_bipush (32 : Int32) (wg_da dt_X12_readLaw 12 rfl) (by decide) ?_
        refine wr_iload_n (wg_da dt_X12_readLaw 13 rfl) rfl ?_
        refine wr_iadd (wg_da dt_X12_readLaw 14 rfl) ?_
        refine wr_let h (fun v5 h => ?_)
        refine wr_istore_n (wg_da dt_X12_readLaw 15 rfl) (by decide) ?_
        refine wr_aload_n (wg_da dt_X12_readLaw 16 rfl) rfl ?_
        refine wr_getR wf_X12_43 (wg_da dt_X12_readLaw 17 rfl) hx0 ?_
        refine wr_iload_n (wg_da dt_X12_readLaw 18 rfl) rfl ?_
        refine wr_aload_n (wg_da dt_X12_readLaw 19 rfl) rfl ?_
        refine wr_getI wf_X12_191 (wg_da dt_X12_readLaw 20 rfl) hx0 ?_
        refine wr_iast (wg_da dt_X12_readLaw 21 rfl) (wg_ty Sm_ok 12 22 0 hx0 rfl (by decide)).2 h (fun s6 h => ?_)
        refine wr_aload_n (wg_da dt_X12_readLaw 22 rfl) rfl ?_
        refine wr_callVv [] [] (wg_da dt_X12_readLaw 23 rfl) ⟨wq_7_158, wq_7_160, wq_p4_15⟩ hx0 ⟨rfl, by decide⟩ wy_X12_reads (fun q hq => m_X12_reads l E x0 hx0 _ q hq) rfl rfl (Nat.le_of_ble_eq_true rfl) ⟨rfl, rfl, by decide, by decide⟩ h (fun _ s7 h => ?_)
        refine wr_aload_n (wg_da dt_X12_readLaw 24 rfl) rfl ?_
        refine wr_getR wf_X12_46 (wg_da dt_X12_readLaw 25 rfl) hx0 ?_
        refine wr_iload_n (wg_da dt_X12_readLaw 26 rfl) rfl ?_
        refine wr_aload_n (wg_da dt_X12_readLaw 27 rfl) rfl ?_
        refine wr_getI wf_X12_212 (wg_da dt_X12_readLaw 28 rfl) hx0 ?_
        refine wr_iast (wg_da dt_X12_readLaw 29 rfl) (wg_ty Sm_ok 12 23 0 hx0 rfl (by decide)).2 h (fun s8 h => ?_)
        refine wr_aload_n (wg_da dt_X12_readLaw 30 rfl) rfl ?_
        refine wr_callVi [] [] (wg_da dt_X12_readLaw 31 rfl) ⟨wq_8_6, wq_8_8, wq_p6_5⟩ hx0 ⟨rfl, by decide⟩ wy_X12_readSum (fun q hq => m_X12_readSum l E x0 hx0 _ q hq) rfl rfl (Nat.le_of_ble_eq_true rfl) ⟨rfl, rfl, by decide, by decide⟩ h (fun v9 s10 h => ?_)
        refine wr_iconst (-1 : Int32) (wg_da dt_X12_readLaw 32 rfl) (by decide) ?_
        refine wr_icmp_ne 60 (wg_da dt_X12_readLaw 33 rfl) (by decide) h (fun h => ?_) (fun h => ?_)
        · refine wr_iconst (-1 : Int32) (wg_da dt_X12_readLaw 34 rfl) (by decide) ?_
          exact wr_iret (wg_da dt_X12_readLaw 35 rfl) h
        · refine wr_aload_n (wg_da dt_X12_readLaw 36 rfl) rfl ?_
          refine wr_getR wf_X12_49 (wg_da dt_X12_readLaw 37 rfl) hx0 ?_
          refine wr_iload_n (wg_da dt_X12_readLaw 38 rfl) rfl ?_
          refine wr_aload_n (wg_da dt_X12_readLaw 39 rfl) rfl ?_
          refine wr_getI wf_X12_212 (wg_da dt_X12_readLaw 40 rfl) hx0 ?_
          refine wr_iast (wg_da dt_X12_readLaw 41 rfl) (wg_ty Sm_ok 12 24 0 hx0 rfl (by decide)).2 h (fun s11 h => ?_)
          refine wr_aload_n (wg_da dt_X12_readLaw 42 rfl) rfl ?_
          refine wr_iconst (3 : Int32) (wg_da dt_X12_readLaw 43 rfl) (by decide) ?_
          refine wr_callVi [.int (3 : Int32)] [] (wg_da dt_X12_readLaw 44 rfl) ⟨wq_7_186, wq_7_188, wq_p5_6⟩ hx0 ⟨rfl, by decide⟩ wy_X12_isWord (fun q hq => m_X12_isWord l E x0 (3 : Int32) hx0 _ q hq) rfl rfl (Nat.le_of_ble_eq_true rfl) ⟨rfl, rfl, by decide, by decide⟩ h (fun v12 s13 h => ?_)
          refine wr_if_eq 92 (wg_da dt_X12_readLaw 45 rfl) (by decide) h (fun h => ?_) (fun h => ?_)
          · exact wr_wk [true, true, true] (g_X12_readLaw_92 l E (f_X12_readLaw_2  n) x0 x1 v5 s13 _ hx0 (fun x0 x1 σ hx0 h => ih x0 x1 σ hx0 h) h)
          · refine wr_aload_n (wg_da dt_X12_readLaw 46 rfl) rfl ?_
            refine wr_callVv [] [] (wg_da dt_X12_readLaw 47 rfl) ⟨wq_7_158, wq_7_160, wq_p4_15⟩ hx0 ⟨rfl, by decide⟩ wy_X12_reads (fun q hq => m_X12_reads l E x0 hx0 _ q hq) rfl rfl (Nat.le_of_ble_eq_true rfl) ⟨rfl, rfl, by decide, by decide⟩ h (fun _ s14 h => ?_)
            refine wr_aload_n (wg_da dt_X12_readLaw 48 rfl) rfl ?_
            refine wr_callVi [] [] (wg_da dt_X12_readLaw 49 rfl) ⟨wq_8_26, wq_8_28, wq_p6_10⟩ hx0 ⟨rfl, by decide⟩ wy_X12_readAny (fun q hq => m_X12_readAny l E x0 hx0 _ q hq) rfl rfl (Nat.le_of_ble_eq_true rfl) ⟨rfl, rfl, by decide, by decide⟩ h (fun v15 s16 h => ?_)
            refine wr_iconst (-1 : Int32) (wg_da dt_X12_readLaw 50 rfl) (by decide) ?_
            refine wr_icmp_ne 92 (wg_da dt_X12_readLaw 51 rfl) (by decide) h (fun h => ?_) (fun h => ?_)
            · refine wr_iconst (-1 : Int32) (wg_da dt_X12_readLaw 52 rfl) (by decide) ?_
              exact wr_iret (wg_da dt_X12_readLaw 53 rfl) h
            · exact wr_wk [true, true, true] (g_X12_readLaw_92 l E (f_X12_readLaw_2  n) x0 x1 v5 s16 _ hx0 (fun x0 x1 σ hx0 h => ih x0 x1 σ hx0 h) h)
set_option maxRecDepth 20000 in
theorem g_X12_readLaw_e (l : Launch) (E : wg_E)  (x0 : Nat) (σ : wg_M) (z : Int32 × wg_M) (hx0 : wg_t Sm x0 = 14) (h : f_X12_readLaw  x0 σ = some z) : wg_G l E Sm "WornWigsModel" cX12_readLaw 3 (some .int) rm_X12_readLaw (some z.1) z.2 0 [some (.ref x0), none, none] [] σ := by
  refine wr_iconst (0 : Int32) (wg_da dt_X12_readLaw 0 rfl) (by decide) ?_
  refine wr_istore_n (wg_da dt_X12_readLaw 1 rfl) (by decide) ?_
  exact wr_wk [true, true, false] (g_X12_readLaw_2 l E  _  wg_N x0 (0 : Int32) σ hx0 h)
theorem m_X12_readLaw (l : Launch) (E : wg_E) (x0 : Nat) (hx0 : wg_t Sm x0 = 14) (σ : wg_M) (q : Int32 × wg_M) (h : f_X12_readLaw x0 σ = some q) : wg_MG l E Sm yX12_readLaw cX12_readLaw 3 (some .int) rm_X12_readLaw [.ref x0] σ (some q.1) q.2 :=
  wg_met [.ref x0] (plainFor_of_name (by decide)) (Nat.le_of_ble_eq_true rfl) (g_X12_readLaw_e l E x0 σ q hx0 h)
abbrev rm_X12_takesLaw : Room := { frames := 0, cells := 0, slots := 0, locals := 0 }
def tb_X12_takesLaw : List (Nat × Instr × Nat) := [(0, .iconst 0, 1), (1, .istore_n 2, 1), (2, .iload_n 2, 1), (3, .iload_n 1, 1), (4, .if_icmp .ge 101, 3), (7, .aload_n 0, 1), (8, .getfield 43, 3), (11, .bipush 16, 2), (13, .aload_n 0, 1), (14, .getfield 266, 3), (17, .imul, 1), (18, .iload_n 2, 1), (19, .iadd, 1), (20, .aload_n 0, 1), (21, .getfield 43, 3), (24, .bipush 32, 2), (26, .iload_n 2, 1), (27, .iadd, 1), (28, .iaload, 1), (29, .iastore, 1), (30, .aload_n 0, 1), (31, .getfield 46, 3), (34, .bipush 16, 2), (36, .aload_n 0, 1), (37, .getfield 266, 3), (40, .imul, 1), (41, .iload_n 2, 1), (42, .iadd, 1), (43, .aload_n 0, 1), (44, .getfield 46, 3), (47, .bipush 32, 2), (49, .iload_n 2, 1), (50, .iadd, 1), (51, .iaload, 1), (52, .iastore, 1), (53, .aload_n 0, 1), (54, .getfield 49, 3), (57, .bipush 16, 2), (59, .aload_n 0, 1), (60, .getfield 266, 3), (63, .imul, 1), (64, .iload_n 2, 1), (65, .iadd, 1), (66, .aload_n 0, 1), (67, .getfield 49, 3), (70, .bipush 32, 2), (72, .iload_n 2, 1), (73, .iadd, 1), (74, .iaload, 1), (75, .iastore, 1), (76, .aload_n 0, 1), (77, .getfield 52, 3), (80, .bipush 16, 2), (82, .aload_n 0, 1), (83, .getfield 266, 3), (86, .imul, 1), (87, .iload_n 2, 1), (88, .iadd, 1), (89, .aload_n 0, 1), (90, .getfield 52, 3), (93, .bipush 32, 2), (95, .iload_n 2, 1), (96, .iadd, 1), (97, .iaload, 1), (98, .iastore, 1), (99, .iinc 2 1, 3), (102, .goto (-100), 3), (105, .iconst 0, 1), (106, .istore_n 2, 1), (107, .iload_n 2, 1), (108, .aload_n 0, 1), (109, .getfield 212, 3), (112, .if_icmp .ge 59, 3), (115, .aload_n 0, 1), (116, .getfield 55, 3), (119, .sipush 400, 3), (122, .aload_n 0, 1), (123, .getfield 266, 3), (126, .imul, 1), (127, .iload_n 2, 1), (128, .iadd, 1), (129, .aload_n 0, 1), (130, .getfield 55, 3), (133, .sipush 800, 3), (136, .iload_n 2, 1), (137, .iadd, 1), (138, .iaload, 1), (139, .iastore, 1), (140, .aload_n 0, 1), (141, .getfield 58, 3), (144, .sipush 400, 3), (147, .aload_n 0, 1), (148, .getfield 266, 3), (151, .imul, 1), (152, .iload_n 2, 1), (153, .iadd, 1), (154, .aload_n 0, 1), (155, .getfield 58, 3), (158, .sipush 800, 3), (161, .iload_n 2, 1), (162, .iadd, 1), (163, .iaload, 1), (164, .iastore, 1), (165, .iinc 2 1, 3), (168, .goto (-61), 3), (171, .aload_n 0, 1), (172, .getfield 40, 3), (175, .aload_n 0, 1), (176, .getfield 266, 3), (179, .iload_n 1, 1), (180, .iastore, 1), (181, .return_, 1)]
theorem dt_X12_takesLaw : wg_dc cX12_takesLaw tb_X12_takesLaw := by unfold wg_dc; decide +kernel
def f_X12_takesLaw_107  : Nat → Nat → Int32 → Int32 → wg_M → Option (Int32 × wg_M)
  | 0, _, _, _, _ => none
  | n + 1, x0, x1, x2, σ => if (σ x0 29) ≤ x2 then (wg_sa (wg_n Sm (wg_r Sm x0 21)) σ (wg_r Sm x0 21) (σ x0 28) x1 (fun s1 => some (0, s1))) else (wg_ga (wg_n Sm (wg_r Sm x0 26)) (σ (wg_r Sm x0 26)) ((800 : Int32) + x2) (fun v2 => wg_sa (wg_n Sm (wg_r Sm x0 26)) σ (wg_r Sm x0 26) (((400 : Int32) * (σ x0 28)) + x2) v2 (fun s3 => wg_ga (wg_n Sm (wg_r Sm x0 27)) (s3 (wg_r Sm x0 27)) ((800 : Int32) + x2) (fun v4 => wg_sa (wg_n Sm (wg_r Sm x0 27)) s3 (wg_r Sm x0 27) (((400 : Int32) * (s3 x0 28)) + x2) v4 (fun s5 => wg_let (x2 + (1 : Int32)) (fun v6 => f_X12_takesLaw_107  n x0 x1 v6 s5))))))
def f_X12_takesLaw_2  : Nat → Nat → Int32 → Int32 → wg_M → Option (Int32 × wg_M)
  | 0, _, _, _, _ => none
  | n + 1, x0, x1, x2, σ => if x1 ≤ x2 then (f_X12_takesLaw_107  wg_N x0 x1 (0 : Int32) σ) else (wg_ga (wg_n Sm (wg_r Sm x0 22)) (σ (wg_r Sm x0 22)) ((32 : Int32) + x2) (fun v1 => wg_sa (wg_n Sm (wg_r Sm x0 22)) σ (wg_r Sm x0 22) (((16 : Int32) * (σ x0 28)) + x2) v1 (fun s2 => wg_ga (wg_n Sm (wg_r Sm x0 23)) (s2 (wg_r Sm x0 23)) ((32 : Int32) + x2) (fun v3 => wg_sa (wg_n Sm (wg_r Sm x0 23)) s2 (wg_r Sm x0 23) (((16 : Int32) * (s2 x0 28)) + x2) v3 (fun s4 => wg_ga (wg_n Sm (wg_r Sm x0 24)) (s4 (wg_r Sm x0 24)) ((32 : Int32) + x2) (fun v5 => wg_sa (wg_n Sm (wg_r Sm x0 24)) s4 (wg_r Sm x0 24) (((16 : Int32) * (s4 x0 28)) + x2) v5 (fun s6 => wg_ga (wg_n Sm (wg_r Sm x0 25)) (s6 (wg_r Sm x0 25)) ((32 : Int32) + x2) (fun v7 => wg_sa (wg_n Sm (wg_r Sm x0 25)) s6 (wg_r Sm x0 25) (((16 : Int32) * (s6 x0 28)) + x2) v7 (fun s8 => wg_let (x2 + (1 : Int32)) (fun v9 => f_X12_takesLaw_2  n x0 x1 v9 s8))))))))))
def f_X12_takesLaw  (x0 : Nat) (x1 : Int32) (σ : wg_M) : Option (Int32 × wg_M) := f_X12_takesLaw_2  wg_N x0 x1 (0 : Int32) σ
set_option maxRecDepth 20000 in
theorem g_X12_takesLaw_107 (l : Launch) (E : wg_E)  (z : Int32 × wg_M) : ∀ (n : Nat) (x0 : Nat) (x1 : Int32) (x2 : Int32) (σ : wg_M) (hx0 : wg_t Sm x0 = 14) (h : f_X12_takesLaw_107  n x0 x1 x2 σ = some z), wg_G l E Sm "WornWigsModel" cX12_takesLaw 3 none rm_X12_takesLaw none z.2 107 [some (.ref x0), some (.int x1), some (.int x2)] [] σ := by
  intro n
  induction n with
  | zero => intro x0 x1 x2 σ hx0 h; cases h
  | succ n ih =>
    intro x0 x1 x2 σ hx0 h
    refine wr_iload_n (wg_da dt_X12_takesLaw 69 rfl) rfl ?_
    refine wr_aload_n (wg_da dt_X12_takesLaw 70 rfl) rfl ?_
    refine wr_getI wf_X12_212 (wg_da dt_X12_takesLaw 71 rfl) hx0 ?_
    refine wr_icmp_ge 171 (wg_da dt_X12_takesLaw 72 rfl) (by decide) h (fun h => ?_) (fun h => ?_)
    · refine wr_aload_n (wg_da dt_X12_takesLaw 105 rfl) rfl ?_
      refine wr_getR wf_X12_40 (wg_da dt_X12_takesLaw 106 rfl) hx0 ?_
      refine wr_aload_n (wg_da dt_X12_takesLaw 107 rfl) rfl ?_
      refine wr_getI wf_X12_266 (wg_da dt_X12_takesLaw 108 rfl) hx0 ?_
      refine wr_iload_n (wg_da dt_X12_takesLaw 109 rfl) rfl ?_
      refine wr_iast (wg_da dt_X12_takesLaw 110 rfl) (wg_ty Sm_ok 12 21 0 hx0 rfl (by decide)).2 h (fun s1 h => ?_)
      exact wr_vret (wg_da dt_X12_takesLaw 111 rfl) h
    · refine wr_aload_n (wg_da dt_X12_takesLaw 73 rfl) rfl ?_
      refine wr_getR wf_X12_55 (wg_da dt_X12_takesLaw 74 rfl) hx0 ?_
      refine wr_sipush (400 : Int32) (wg_da dt_X12_takesLaw 75 rfl) (by decide) ?_
      refine wr_aload_n (wg_da dt_X12_takesLaw 76 rfl) rfl ?_
      refine wr_getI wf_X12_266 (wg_da dt_X12_takesLaw 77 rfl) hx0 ?_
      refine wr_imul (wg_da dt_X12_takesLaw 78 rfl) ?_
      refine wr_iload_n (wg_da dt_X12_takesLaw 79 rfl) rfl ?_
      refine wr_iadd (wg_da dt_X12_takesLaw 80 rfl) ?_
      refine wr_aload_n (wg_da dt_X12_takesLaw 81 rfl) rfl ?_
      refine wr_getR wf_X12_55 (wg_da dt_X12_takesLaw 82 rfl) hx0 ?_
      refine wr_sipush (800 : Int32) (wg_da dt_X12_takesLaw 83 rfl) (by decide) ?_
      refine wr_iload_n (wg_da dt_X12_takesLaw 84 rfl) rfl ?_
      refine wr_iadd (wg_da dt_X12_takesLaw 85 rfl) ?_
      refine wr_iald (wg_da dt_X12_takesLaw 86 rfl) (wg_ty Sm_ok 12 26 0 hx0 rfl (by decide)).2 h (fun v2 h => ?_)
      refine wr_iast (wg_da dt_X12_takesLaw 87 rfl) (wg_ty Sm_ok 12 26 0 hx0 rfl (by decide)).2 h (fun s3 h => ?_)
      refine wr_aload_n (wg_da dt_X12_takesLaw 88 rfl) rfl ?_
      refine wr_getR wf_X12_58 (wg_da dt_X12_takesLaw 89 rfl) hx0 ?_
      refine wr_sipush (400 : Int32) (wg_da dt_X12_takesLaw 90 rfl) (by decide) ?_
      refine wr_aload_n (wg_da dt_X12_takesLaw 91 rfl) rfl ?_
      refine wr_getI wf_X12_266 (wg_da dt_X12_takesLaw 92 rfl) hx0 ?_
      refine wr_imul (wg_da dt_X12_takesLaw 93 rfl) ?_
      refine wr_iload_n (wg_da dt_X12_takesLaw 94 rfl) rfl ?_
      refine wr_iadd (wg_da dt_X12_takesLaw 95 rfl) ?_
      refine wr_aload_n (wg_da dt_X12_takesLaw 96 rfl) rfl ?_
      refine wr_getR wf_X12_58 (wg_da dt_X12_takesLaw 97 rfl) hx0 ?_
      refine wr_sipush (800 : Int32) (wg_da dt_X12_takesLaw 98 rfl) (by decide) ?_
      refine wr_iload_n (wg_da dt_X12_takesLaw 99 rfl) rfl ?_
      refine wr_iadd (wg_da dt_X12_takesLaw 100 rfl) ?_
      refine wr_iald (wg_da dt_X12_takesLaw 101 rfl) (wg_ty Sm_ok 12 27 0 hx0 rfl (by decide)).2 h (fun v4 h => ?_)
      refine wr_iast (wg_da dt_X12_takesLaw 102 rfl) (wg_ty Sm_ok 12 27 0 hx0 rfl (by decide)).2 h (fun s5 h => ?_)
      refine wr_iinc (c0 := (1 : Int32)) (wg_da dt_X12_takesLaw 103 rfl) rfl (by decide) (by decide) h (fun v6 h => ?_)
      refine wr_goto 107 (wg_da dt_X12_takesLaw 104 rfl) (by decide) ?_
      exact wr_wk [true, true, true] (ih x0 x1 v6 s5 hx0 h)
set_option maxRecDepth 20000 in
theorem g_X12_takesLaw_2 (l : Launch) (E : wg_E)  (z : Int32 × wg_M) : ∀ (n : Nat) (x0 : Nat) (x1 : Int32) (x2 : Int32) (σ : wg_M) (hx0 : wg_t Sm x0 = 14) (h : f_X12_takesLaw_2  n x0 x1 x2 σ = some z), wg_G l E Sm "WornWigsModel" cX12_takesLaw 3 none rm_X12_takesLaw none z.2 2 [some (.ref x0), some (.int x1), some (.int x2)] [] σ := by
  intro n
  induction n with
  | zero => intro x0 x1 x2 σ hx0 h; cases h
  | succ n ih =>
    intro x0 x1 x2 σ hx0 h
    refine wr_iload_n (wg_da dt_X12_takesLaw 2 rfl) rfl ?_
    refine wr_iload_n (wg_da dt_X12_takesLaw 3 rfl) rfl ?_
    refine wr_icmp_ge 105 (wg_da dt_X12_takesLaw 4 rfl) (by decide) h (fun h => ?_) (fun h => ?_)
    · refine wr_iconst (0 : Int32) (wg_da dt_X12_takesLaw 67 rfl) (by decide) ?_
      refine wr_istore_n (wg_da dt_X12_takesLaw 68 rfl) (by decide) ?_
      exact wr_wk [true, true, true] (g_X12_takesLaw_107 l E  _  wg_N x0 x1 (0 : Int32) σ hx0 h)
    · refine wr_aload_n (wg_da dt_X12_takesLaw 5 rfl) rfl ?_
      refine wr_getR wf_X12_43 (wg_da dt_X12_takesLaw 6 rfl) hx0 ?_
      refine wr_bipush (16 : Int32) (wg_da dt_X12_takesLaw 7 rfl) (by decide) ?_
      refine wr_aload_n (wg_da dt_X12_takesLaw 8 rfl) rfl ?_
      refine wr_getI wf_X12_266 (wg_da dt_X12_takesLaw 9 rfl) hx0 ?_
      refine wr_imul (wg_da dt_X12_takesLaw 10 rfl) ?_
      refine wr_iload_n (wg_da dt_X12_takesLaw 11 rfl) rfl ?_
      refine wr_iadd (wg_da dt_X12_takesLaw 12 rfl) ?_
      refine wr_aload_n (wg_da dt_X12_takesLaw 13 rfl) rfl ?_
      refine wr_getR wf_X12_43 (wg_da dt_X12_takesLaw 14 rfl) hx0 ?_
      refine wr_bipush (32 : Int32) (wg_da dt_X12_takesLaw 15 rfl) (by decide) ?_
      refine wr_iload_n (wg_da dt_X12_takesLaw 16 rfl) rfl ?_
      refine wr_iadd (wg_da dt_X12_takesLaw 17 rfl) ?_
      refine wr_iald (wg_da dt_X12_takesLaw 18 rfl) (wg_ty Sm_ok 12 22 0 hx0 rfl (by decide)).2 h (fun v1 h => ?_)
      refine wr_iast (wg_da dt_X12_takesLaw 19 rfl) (wg_ty Sm_ok 12 22 0 hx0 rfl (by decide)).2 h (fun s2 h => ?_)
      refine wr_aload_n (wg_da dt_X12_takesLaw 20 rfl) rfl ?_
      refine wr_getR wf_X12_46 (wg_da dt_X12_takesLaw 21 rfl) hx0 ?_
      refine wr_bipush (16 : Int32) (wg_da dt_X12_takesLaw 22 rfl) (by decide) ?_
      refine wr_aload_n (wg_da dt_X12_takesLaw 23 rfl) rfl ?_
      refine wr_getI wf_X12_266 (wg_da dt_X12_takesLaw 24 rfl) hx0 ?_
      refine wr_imul (wg_da dt_X12_takesLaw 25 rfl) ?_
      refine wr_iload_n (wg_da dt_X12_takesLaw 26 rfl) rfl ?_
      refine wr_iadd (wg_da dt_X12_takesLaw 27 rfl) ?_
      refine wr_aload_n (wg_da dt_X12_takesLaw 28 rfl) rfl ?_
      refine wr_getR wf_X12_46 (wg_da dt_X12_takesLaw 29 rfl) hx0 ?_
      refine wr_bipush (32 : Int32) (wg_da dt_X12_takesLaw 30 rfl) (by decide) ?_
      refine wr_iload_n (wg_da dt_X12_takesLaw 31 rfl) rfl ?_
      refine wr_iadd (wg_da dt_X12_takesLaw 32 rfl) ?_
      refine wr_iald (wg_da dt_X12_takesLaw 33 rfl) (wg_ty Sm_ok 12 23 0 hx0 rfl (by decide)).2 h (fun v3 h => ?_)
      refine wr_iast (wg_da dt_X12_takesLaw 34 rfl) (wg_ty Sm_ok 12 23 0 hx0 rfl (by decide)).2 h (fun s4 h => ?_)
      refine wr_aload_n (wg_da dt_X12_takesLaw 35 rfl) rfl ?_
      refine wr_getR wf_X12_49 (wg_da dt_X12_takesLaw 36 rfl) hx0 ?_
      refine wr_bipush (16 : Int32) (wg_da dt_X12_takesLaw 37 rfl) (by decide) ?_
      refine wr_aload_n (wg_da dt_X12_takesLaw 38 rfl) rfl ?_
      refine wr_getI wf_X12_266 (wg_da dt_X12_takesLaw 39 rfl) hx0 ?_
      refine wr_imul (wg_da dt_X12_takesLaw 40 rfl) ?_
      refine wr_iload_n (wg_da dt_X12_takesLaw 41 rfl) rfl ?_
      refine wr_iadd (wg_da dt_X12_takesLaw 42 rfl) ?_
      refine wr_aload_n (wg_da dt_X12_takesLaw 43 rfl) rfl ?_
      refine wr_getR wf_X12_49 (wg_da dt_X12_takesLaw 44 rfl) hx0 ?_
      refine wr_bipush (32 : Int32) (wg_da dt_X12_takesLaw 45 rfl) (by decide) ?_
      refine wr_iload_n (wg_da dt_X12_takesLaw 46 rfl) rfl ?_
      refine wr_iadd (wg_da dt_X12_takesLaw 47 rfl) ?_
      refine wr_iald (wg_da dt_X12_takesLaw 48 rfl) (wg_ty Sm_ok 12 24 0 hx0 rfl (by decide)).2 h (fun v5 h => ?_)
      refine wr_iast (wg_da dt_X12_takesLaw 49 rfl) (wg_ty Sm_ok 12 24 0 hx0 rfl (by decide)).2 h (fun s6 h => ?_)
      refine wr_aload_n (wg_da dt_X12_takesLaw 50 rfl) rfl ?_
      refine wr_getR wf_X12_52 (wg_da dt_X12_takesLaw 51 rfl) hx0 ?_
      refine wr_bipush (16 : Int32) (wg_da dt_X12_takesLaw 52 rfl) (by decide) ?_
      refine wr_aload_n (wg_da dt_X12_takesLaw 53 rfl) rfl ?_
      refine wr_getI wf_X12_266 (wg_da dt_X12_takesLaw 54 rfl) hx0 ?_
      refine wr_imul (wg_da dt_X12_takesLaw 55 rfl) ?_
      refine wr_iload_n (wg_da dt_X12_takesLaw 56 rfl) rfl ?_
      refine wr_iadd (wg_da dt_X12_takesLaw 57 rfl) ?_
      refine wr_aload_n (wg_da dt_X12_takesLaw 58 rfl) rfl ?_
      refine wr_getR wf_X12_52 (wg_da dt_X12_takesLaw 59 rfl) hx0 ?_
      refine wr_bipush (32 : Int32) (wg_da dt_X12_takesLaw 60 rfl) (by decide) ?_
      refine wr_iload_n (wg_da dt_X12_takesLaw 61 rfl) rfl ?_
      refine wr_iadd (wg_da dt_X12_takesLaw 62 rfl) ?_
      refine wr_iald (wg_da dt_X12_takesLaw 63 rfl) (wg_ty Sm_ok 12 25 0 hx0 rfl (by decide)).2 h (fun v7 h => ?_)
      refine wr_iast (wg_da dt_X12_takesLaw 64 rfl) (wg_ty Sm_ok 12 25 0 hx0 rfl (by decide)).2 h (fun s8 h => ?_)
      refine wr_iinc (c0 := (1 : Int32)) (wg_da dt_X12_takesLaw 65 rfl) rfl (by decide) (by decide) h (fun v9 h => ?_)
      refine wr_goto 2 (wg_da dt_X12_takesLaw 66 rfl) (by decide) ?_
      exact wr_wk [true, true, true] (ih x0 x1 v9 s8 hx0 h)
set_option maxRecDepth 20000 in
theorem g_X12_takesLaw_e (l : Launch) (E : wg_E)  (x0 : Nat) (x1 : Int32) (σ : wg_M) (z : Int32 × wg_M) (hx0 : wg_t Sm x0 = 14) (h : f_X12_takesLaw  x0 x1 σ = some z) : wg_G l E Sm "WornWigsModel" cX12_takesLaw 3 none rm_X12_takesLaw none z.2 0 [some (.ref x0), some (.int x1), none] [] σ := by
  refine wr_iconst (0 : Int32) (wg_da dt_X12_takesLaw 0 rfl) (by decide) ?_
  refine wr_istore_n (wg_da dt_X12_takesLaw 1 rfl) (by decide) ?_
  exact wr_wk [true, true, true] (g_X12_takesLaw_2 l E  _  wg_N x0 x1 (0 : Int32) σ hx0 h)
theorem m_X12_takesLaw (l : Launch) (E : wg_E) (x0 : Nat) (x1 : Int32) (hx0 : wg_t Sm x0 = 14) (σ : wg_M) (q : Int32 × wg_M) (h : f_X12_takesLaw x0 x1 σ = some q) : wg_MG l E Sm yX12_takesLaw cX12_takesLaw 3 none rm_X12_takesLaw [.ref x0, .int x1] σ none q.2 :=
  wg_met [.ref x0, .int x1] (plainFor_of_name (by decide)) (Nat.le_of_ble_eq_true rfl) (g_X12_takesLaw_e l E x0 x1 σ q hx0 h)
abbrev rm_X12_readNumber : Room := { frames := 3, cells := 0, slots := 0, locals := 65 }
def tb_X12_readNumber : List (Nat × Instr × Nat) := [(0, .aload_n 0, 1), (1, .getfield 188, 3), (4, .iconst 3, 1), (5, .if_icmp .eq 9, 3), (8, .aload_n 0, 1), (9, .iconst 1, 1), (10, .invokevirtual 218, 3), (13, .ireturn, 1), (14, .aload_n 0, 1), (15, .aload_n 0, 1), (16, .getfield 191, 3), (19, .iload_n 1, 1), (20, .iload_n 2, 1), (21, .invokevirtual 153, 3), (24, .ifCond .ne 9, 3), (27, .aload_n 0, 1), (28, .iconst 2, 1), (29, .invokevirtual 218, 3), (32, .ireturn, 1), (33, .aload_n 0, 1), (34, .getfield 191, 3), (37, .istore_n 3, 1), (38, .aload_n 0, 1), (39, .invokevirtual 225, 3), (42, .iload_n 3, 1), (43, .ireturn, 1)]
theorem dt_X12_readNumber : wg_dc cX12_readNumber tb_X12_readNumber := by unfold wg_dc; decide +kernel
def f_X12_readNumber  (x0 : Nat) (x1 : Int32) (x2 : Int32) (σ : wg_M) : Option (Int32 × wg_M) := if (σ x0 18) = (3 : Int32) then (wg_bd (f_X12_isIn x0 (σ x0 19) x1 x2 σ) (fun v1 s2 => if v1 = 0 then (wg_bd (f_X12_errs x0 (2 : Int32) s2) (fun v5 s6 => some (v5, s6))) else (wg_let (s2 x0 19) (fun v3 => wg_bd (f_X12_reads x0 s2) (fun _ s4 => some (v3, s4)))))) else (wg_bd (f_X12_errs x0 (1 : Int32) σ) (fun v7 s8 => some (v7, s8)))
set_option maxRecDepth 20000 in
theorem g_X12_readNumber_e (l : Launch) (E : wg_E)  (x0 : Nat) (x1 : Int32) (x2 : Int32) (σ : wg_M) (z : Int32 × wg_M) (hx0 : wg_t Sm x0 = 14) (h : f_X12_readNumber  x0 x1 x2 σ = some z) : wg_G l E Sm "WornWigsModel" cX12_readNumber 4 (some .int) rm_X12_readNumber (some z.1) z.2 0 [some (.ref x0), some (.int x1), some (.int x2), none] [] σ := by
  refine wr_aload_n (wg_da dt_X12_readNumber 0 rfl) rfl ?_
  refine wr_getI wf_X12_188 (wg_da dt_X12_readNumber 1 rfl) hx0 ?_
  refine wr_iconst (3 : Int32) (wg_da dt_X12_readNumber 2 rfl) (by decide) ?_
  refine wr_icmp_eq 14 (wg_da dt_X12_readNumber 3 rfl) (by decide) h (fun h => ?_) (fun h => ?_)
  · refine wr_aload_n (wg_da dt_X12_readNumber 8 rfl) rfl ?_
    refine wr_aload_n (wg_da dt_X12_readNumber 9 rfl) rfl ?_
    refine wr_getI wf_X12_191 (wg_da dt_X12_readNumber 10 rfl) hx0 ?_
    refine wr_iload_n (wg_da dt_X12_readNumber 11 rfl) rfl ?_
    refine wr_iload_n (wg_da dt_X12_readNumber 12 rfl) rfl ?_
    refine wr_callVi [.int (σ x0 19), .int x1, .int x2] [] (wg_da dt_X12_readNumber 13 rfl) ⟨wq_7_82, wq_7_84, wq_p4_3⟩ hx0 ⟨rfl, by decide⟩ wy_X12_isIn (fun q hq => m_X12_isIn l E x0 (σ x0 19) x1 x2 hx0 _ q hq) rfl rfl (Nat.le_of_ble_eq_true rfl) ⟨rfl, rfl, by decide, by decide⟩ h (fun v1 s2 h => ?_)
    refine wr_if_ne 33 (wg_da dt_X12_readNumber 14 rfl) (by decide) h (fun h => ?_) (fun h => ?_)
    · refine wr_aload_n (wg_da dt_X12_readNumber 15 rfl) rfl ?_
      refine wr_iconst (2 : Int32) (wg_da dt_X12_readNumber 16 rfl) (by decide) ?_
      refine wr_callVi [.int (2 : Int32)] [] (wg_da dt_X12_readNumber 17 rfl) ⟨wq_7_190, wq_7_192, wq_p5_7⟩ hx0 ⟨rfl, by decide⟩ wy_X12_errs (fun q hq => m_X12_errs l E x0 (2 : Int32) hx0 _ q hq) rfl rfl (Nat.le_of_ble_eq_true rfl) ⟨rfl, rfl, by decide, by decide⟩ h (fun v5 s6 h => ?_)
      exact wr_iret (wg_da dt_X12_readNumber 18 rfl) h
    · refine wr_aload_n (wg_da dt_X12_readNumber 19 rfl) rfl ?_
      refine wr_getI wf_X12_191 (wg_da dt_X12_readNumber 20 rfl) hx0 ?_
      refine wr_let h (fun v3 h => ?_)
      refine wr_istore_n (wg_da dt_X12_readNumber 21 rfl) (by decide) ?_
      refine wr_aload_n (wg_da dt_X12_readNumber 22 rfl) rfl ?_
      refine wr_callVv [] [] (wg_da dt_X12_readNumber 23 rfl) ⟨wq_7_158, wq_7_160, wq_p4_15⟩ hx0 ⟨rfl, by decide⟩ wy_X12_reads (fun q hq => m_X12_reads l E x0 hx0 _ q hq) rfl rfl (Nat.le_of_ble_eq_true rfl) ⟨rfl, rfl, by decide, by decide⟩ h (fun _ s4 h => ?_)
      refine wr_iload_n (wg_da dt_X12_readNumber 24 rfl) rfl ?_
      exact wr_iret (wg_da dt_X12_readNumber 25 rfl) h
  · refine wr_aload_n (wg_da dt_X12_readNumber 4 rfl) rfl ?_
    refine wr_iconst (1 : Int32) (wg_da dt_X12_readNumber 5 rfl) (by decide) ?_
    refine wr_callVi [.int (1 : Int32)] [] (wg_da dt_X12_readNumber 6 rfl) ⟨wq_7_190, wq_7_192, wq_p5_7⟩ hx0 ⟨rfl, by decide⟩ wy_X12_errs (fun q hq => m_X12_errs l E x0 (1 : Int32) hx0 _ q hq) rfl rfl (Nat.le_of_ble_eq_true rfl) ⟨rfl, rfl, by decide, by decide⟩ h (fun v7 s8 h => ?_)
    exact wr_iret (wg_da dt_X12_readNumber 7 rfl) h
theorem m_X12_readNumber (l : Launch) (E : wg_E) (x0 : Nat) (x1 : Int32) (x2 : Int32) (hx0 : wg_t Sm x0 = 14) (σ : wg_M) (q : Int32 × wg_M) (h : f_X12_readNumber x0 x1 x2 σ = some q) : wg_MG l E Sm yX12_readNumber cX12_readNumber 4 (some .int) rm_X12_readNumber [.ref x0, .int x1, .int x2] σ (some q.1) q.2 :=
  wg_met [.ref x0, .int x1, .int x2] (plainFor_of_name (by decide)) (Nat.le_of_ble_eq_true rfl) (g_X12_readNumber_e l E x0 x1 x2 σ q hx0 h)
abbrev rm_X12_readMark : Room := { frames := 3, cells := 0, slots := 0, locals := 65 }
def tb_X12_readMark : List (Nat × Instr × Nat) := [(0, .aload_n 0, 1), (1, .iload_n 1, 1), (2, .invokevirtual 232, 3), (5, .ifCond .ne 9, 3), (8, .aload_n 0, 1), (9, .iconst 1, 1), (10, .invokevirtual 218, 3), (13, .ireturn, 1), (14, .aload_n 0, 1), (15, .invokevirtual 225, 3), (18, .iconst 0, 1), (19, .ireturn, 1)]
theorem dt_X12_readMark : wg_dc cX12_readMark tb_X12_readMark := by unfold wg_dc; decide +kernel
def f_X12_readMark  (x0 : Nat) (x1 : Int32) (σ : wg_M) : Option (Int32 × wg_M) := wg_bd (f_X12_isSign x0 x1 σ) (fun v1 s2 => if v1 = 0 then (wg_bd (f_X12_errs x0 (1 : Int32) s2) (fun v4 s5 => some (v4, s5))) else (wg_bd (f_X12_reads x0 s2) (fun _ s3 => some ((0 : Int32), s3))))
set_option maxRecDepth 20000 in
theorem g_X12_readMark_e (l : Launch) (E : wg_E)  (x0 : Nat) (x1 : Int32) (σ : wg_M) (z : Int32 × wg_M) (hx0 : wg_t Sm x0 = 14) (h : f_X12_readMark  x0 x1 σ = some z) : wg_G l E Sm "WornWigsModel" cX12_readMark 2 (some .int) rm_X12_readMark (some z.1) z.2 0 [some (.ref x0), some (.int x1)] [] σ := by
  refine wr_aload_n (wg_da dt_X12_readMark 0 rfl) rfl ?_
  refine wr_iload_n (wg_da dt_X12_readMark 1 rfl) rfl ?_
  refine wr_callVi [.int x1] [] (wg_da dt_X12_readMark 2 rfl) ⟨wq_7_210, wq_7_212, wq_p5_12⟩ hx0 ⟨rfl, by decide⟩ wy_X12_isSign (fun q hq => m_X12_isSign l E x0 x1 hx0 _ q hq) rfl rfl (Nat.le_of_ble_eq_true rfl) ⟨rfl, rfl, by decide, by decide⟩ h (fun v1 s2 h => ?_)
  refine wr_if_ne 14 (wg_da dt_X12_readMark 3 rfl) (by decide) h (fun h => ?_) (fun h => ?_)
  · refine wr_aload_n (wg_da dt_X12_readMark 4 rfl) rfl ?_
    refine wr_iconst (1 : Int32) (wg_da dt_X12_readMark 5 rfl) (by decide) ?_
    refine wr_callVi [.int (1 : Int32)] [] (wg_da dt_X12_readMark 6 rfl) ⟨wq_7_190, wq_7_192, wq_p5_7⟩ hx0 ⟨rfl, by decide⟩ wy_X12_errs (fun q hq => m_X12_errs l E x0 (1 : Int32) hx0 _ q hq) rfl rfl (Nat.le_of_ble_eq_true rfl) ⟨rfl, rfl, by decide, by decide⟩ h (fun v4 s5 h => ?_)
    exact wr_iret (wg_da dt_X12_readMark 7 rfl) h
  · refine wr_aload_n (wg_da dt_X12_readMark 8 rfl) rfl ?_
    refine wr_callVv [] [] (wg_da dt_X12_readMark 9 rfl) ⟨wq_7_158, wq_7_160, wq_p4_15⟩ hx0 ⟨rfl, by decide⟩ wy_X12_reads (fun q hq => m_X12_reads l E x0 hx0 _ q hq) rfl rfl (Nat.le_of_ble_eq_true rfl) ⟨rfl, rfl, by decide, by decide⟩ h (fun _ s3 h => ?_)
    refine wr_iconst (0 : Int32) (wg_da dt_X12_readMark 10 rfl) (by decide) ?_
    exact wr_iret (wg_da dt_X12_readMark 11 rfl) h
theorem m_X12_readMark (l : Launch) (E : wg_E) (x0 : Nat) (x1 : Int32) (hx0 : wg_t Sm x0 = 14) (σ : wg_M) (q : Int32 × wg_M) (h : f_X12_readMark x0 x1 σ = some q) : wg_MG l E Sm yX12_readMark cX12_readMark 2 (some .int) rm_X12_readMark [.ref x0, .int x1] σ (some q.1) q.2 :=
  wg_met [.ref x0, .int x1] (plainFor_of_name (by decide)) (Nat.le_of_ble_eq_true rfl) (g_X12_readMark_e l E x0 x1 σ q hx0 h)
abbrev rm_X12_readTold : Room := { frames := 4, cells := 0, slots := 0, locals := 88 }
def tb_X12_readTold : List (Nat × Instr × Nat) := [(0, .aload_n 0, 1), (1, .iload_n 1, 1), (2, .invokevirtual 247, 3), (5, .ifCond .ne 9, 3), (8, .aload_n 0, 1), (9, .iconst 1, 1), (10, .invokevirtual 218, 3), (13, .ireturn, 1), (14, .aload_n 0, 1), (15, .invokevirtual 225, 3), (18, .aload_n 0, 1), (19, .iload_n 2, 1), (20, .iload_n 3, 1), (21, .invokevirtual 269, 3), (24, .ireturn, 1)]
theorem dt_X12_readTold : wg_dc cX12_readTold tb_X12_readTold := by unfold wg_dc; decide +kernel
def f_X12_readTold  (x0 : Nat) (x1 : Int32) (x2 : Int32) (x3 : Int32) (σ : wg_M) : Option (Int32 × wg_M) := wg_bd (f_X12_isWord x0 x1 σ) (fun v1 s2 => if v1 = 0 then (wg_bd (f_X12_errs x0 (1 : Int32) s2) (fun v6 s7 => some (v6, s7))) else (wg_bd (f_X12_reads x0 s2) (fun _ s3 => wg_bd (f_X12_readNumber x0 x2 x3 s3) (fun v4 s5 => some (v4, s5)))))
set_option maxRecDepth 20000 in
theorem g_X12_readTold_e (l : Launch) (E : wg_E)  (x0 : Nat) (x1 : Int32) (x2 : Int32) (x3 : Int32) (σ : wg_M) (z : Int32 × wg_M) (hx0 : wg_t Sm x0 = 14) (h : f_X12_readTold  x0 x1 x2 x3 σ = some z) : wg_G l E Sm "WornWigsModel" cX12_readTold 4 (some .int) rm_X12_readTold (some z.1) z.2 0 [some (.ref x0), some (.int x1), some (.int x2), some (.int x3)] [] σ := by
  refine wr_aload_n (wg_da dt_X12_readTold 0 rfl) rfl ?_
  refine wr_iload_n (wg_da dt_X12_readTold 1 rfl) rfl ?_
  refine wr_callVi [.int x1] [] (wg_da dt_X12_readTold 2 rfl) ⟨wq_7_186, wq_7_188, wq_p5_6⟩ hx0 ⟨rfl, by decide⟩ wy_X12_isWord (fun q hq => m_X12_isWord l E x0 x1 hx0 _ q hq) rfl rfl (Nat.le_of_ble_eq_true rfl) ⟨rfl, rfl, by decide, by decide⟩ h (fun v1 s2 h => ?_)
  refine wr_if_ne 14 (wg_da dt_X12_readTold 3 rfl) (by decide) h (fun h => ?_) (fun h => ?_)
  · refine wr_aload_n (wg_da dt_X12_readTold 4 rfl) rfl ?_
    refine wr_iconst (1 : Int32) (wg_da dt_X12_readTold 5 rfl) (by decide) ?_
    refine wr_callVi [.int (1 : Int32)] [] (wg_da dt_X12_readTold 6 rfl) ⟨wq_7_190, wq_7_192, wq_p5_7⟩ hx0 ⟨rfl, by decide⟩ wy_X12_errs (fun q hq => m_X12_errs l E x0 (1 : Int32) hx0 _ q hq) rfl rfl (Nat.le_of_ble_eq_true rfl) ⟨rfl, rfl, by decide, by decide⟩ h (fun v6 s7 h => ?_)
    exact wr_iret (wg_da dt_X12_readTold 7 rfl) h
  · refine wr_aload_n (wg_da dt_X12_readTold 8 rfl) rfl ?_
    refine wr_callVv [] [] (wg_da dt_X12_readTold 9 rfl) ⟨wq_7_158, wq_7_160, wq_p4_15⟩ hx0 ⟨rfl, by decide⟩ wy_X12_reads (fun q hq => m_X12_reads l E x0 hx0 _ q hq) rfl rfl (Nat.le_of_ble_eq_true rfl) ⟨rfl, rfl, by decide, by decide⟩ h (fun _ s3 h => ?_)
    refine wr_aload_n (wg_da dt_X12_readTold 10 rfl) rfl ?_
    refine wr_iload_n (wg_da dt_X12_readTold 11 rfl) rfl ?_
    refine wr_iload_n (wg_da dt_X12_readTold 12 rfl) rfl ?_
    refine wr_callVi [.int x2, .int x3] [] (wg_da dt_X12_readTold 13 rfl) ⟨wq_7_202, wq_7_204, wq_p5_10⟩ hx0 ⟨rfl, by decide⟩ wy_X12_readNumber (fun q hq => m_X12_readNumber l E x0 x2 x3 hx0 _ q hq) rfl rfl (Nat.le_of_ble_eq_true rfl) ⟨rfl, rfl, by decide, by decide⟩ h (fun v4 s5 h => ?_)
    exact wr_iret (wg_da dt_X12_readTold 14 rfl) h
theorem m_X12_readTold (l : Launch) (E : wg_E) (x0 : Nat) (x1 : Int32) (x2 : Int32) (x3 : Int32) (hx0 : wg_t Sm x0 = 14) (σ : wg_M) (q : Int32 × wg_M) (h : f_X12_readTold x0 x1 x2 x3 σ = some q) : wg_MG l E Sm yX12_readTold cX12_readTold 4 (some .int) rm_X12_readTold [.ref x0, .int x1, .int x2, .int x3] σ (some q.1) q.2 :=
  wg_met [.ref x0, .int x1, .int x2, .int x3] (plainFor_of_name (by decide)) (Nat.le_of_ble_eq_true rfl) (g_X12_readTold_e l E x0 x1 x2 x3 σ q hx0 h)
abbrev rm_X12_readDocketLine : Room := { frames := 5, cells := 0, slots := 0, locals := 111 }
def tb_X12_readDocketLine : List (Nat × Instr × Nat) := [(0, .aload_n 0, 1), (1, .getfield 68, 3), (4, .iload_n 1, 1), (5, .aload_n 0, 1), (6, .bipush 17, 2), (8, .iconst 0, 1), (9, .sipush 999, 3), (12, .invokevirtual 272, 3), (15, .iastore, 1), (16, .aload_n 0, 1), (17, .getfield 68, 3), (20, .iload_n 1, 1), (21, .iaload, 1), (22, .iconst (-1), 1), (23, .if_icmp .ne 5, 3), (26, .iconst (-1), 1), (27, .ireturn, 1), (28, .aload_n 0, 1), (29, .getfield 68, 3), (32, .iload_n 1, 1), (33, .iconst 1, 1), (34, .iadd, 1), (35, .aload_n 0, 1), (36, .bipush 18, 2), (38, .iconst 0, 1), (39, .aload_n 0, 1), (40, .getfield 131, 3), (43, .iconst 1, 1), (44, .isub, 1), (45, .invokevirtual 272, 3), (48, .iastore, 1), (49, .aload_n 0, 1), (50, .getfield 68, 3), (53, .iload_n 1, 1), (54, .iconst 1, 1), (55, .iadd, 1), (56, .iaload, 1), (57, .iconst (-1), 1), (58, .if_icmp .ne 5, 3), (61, .iconst (-1), 1), (62, .ireturn, 1), (63, .aload_n 0, 1), (64, .getfield 68, 3), (67, .iload_n 1, 1), (68, .iconst 2, 1), (69, .iadd, 1), (70, .aload_n 0, 1), (71, .bipush 19, 2), (73, .iconst 0, 1), (74, .aload_n 0, 1), (75, .getfield 128, 3), (78, .iconst 1, 1), (79, .isub, 1), (80, .invokevirtual 272, 3), (83, .iastore, 1), (84, .aload_n 0, 1), (85, .getfield 68, 3), (88, .iload_n 1, 1), (89, .iconst 2, 1), (90, .iadd, 1), (91, .iaload, 1), (92, .iconst (-1), 1), (93, .if_icmp .ne 7, 3), (96, .iconst (-1), 1), (97, .goto 9, 3), (100, .aload_n 0, 1), (101, .bipush 59, 2), (103, .invokevirtual 276, 3), (106, .ireturn, 1)]
theorem dt_X12_readDocketLine : wg_dc cX12_readDocketLine tb_X12_readDocketLine := by unfold wg_dc; decide +kernel
def f_X12_readDocketLine  (x0 : Nat) (x1 : Int32) (σ : wg_M) : Option (Int32 × wg_M) := wg_bd (f_X12_readTold x0 (17 : Int32) (0 : Int32) (999 : Int32) σ) (fun v1 s2 => wg_sa (wg_n Sm (wg_r Sm x0 38)) s2 (wg_r Sm x0 38) x1 v1 (fun s3 => wg_ga (wg_n Sm (wg_r Sm x0 38)) (s3 (wg_r Sm x0 38)) x1 (fun v4 => if v4 = (-1 : Int32) then (some ((-1 : Int32), s3)) else (wg_bd (f_X12_readTold x0 (18 : Int32) (0 : Int32) ((s3 x0 8) - (1 : Int32)) s3) (fun v5 s6 => wg_sa (wg_n Sm (wg_r Sm x0 38)) s6 (wg_r Sm x0 38) (x1 + (1 : Int32)) v5 (fun s7 => wg_ga (wg_n Sm (wg_r Sm x0 38)) (s7 (wg_r Sm x0 38)) (x1 + (1 : Int32)) (fun v8 => if v8 = (-1 : Int32) then (some ((-1 : Int32), s7)) else (wg_bd (f_X12_readTold x0 (19 : Int32) (0 : Int32) ((s7 x0 7) - (1 : Int32)) s7) (fun v9 s10 => wg_sa (wg_n Sm (wg_r Sm x0 38)) s10 (wg_r Sm x0 38) (x1 + (2 : Int32)) v9 (fun s11 => wg_ga (wg_n Sm (wg_r Sm x0 38)) (s11 (wg_r Sm x0 38)) (x1 + (2 : Int32)) (fun v12 => if v12 = (-1 : Int32) then (some ((-1 : Int32), s11)) else (wg_bd (f_X12_readMark x0 (59 : Int32) s11) (fun v13 s14 => some (v13, s14))))))))))))))
set_option maxRecDepth 20000 in
theorem g_X12_readDocketLine_e (l : Launch) (E : wg_E)  (x0 : Nat) (x1 : Int32) (σ : wg_M) (z : Int32 × wg_M) (hx0 : wg_t Sm x0 = 14) (h : f_X12_readDocketLine  x0 x1 σ = some z) : wg_G l E Sm "WornWigsModel" cX12_readDocketLine 2 (some .int) rm_X12_readDocketLine (some z.1) z.2 0 [some (.ref x0), some (.int x1)] [] σ := by
  refine wr_aload_n (wg_da dt_X12_readDocketLine 0 rfl) rfl ?_
  refine wr_getR wf_X12_68 (wg_da dt_X12_readDocketLine 1 rfl) hx0 ?_
  refine wr_iload_n (wg_da dt_X12_readDocketLine 2 rfl) rfl ?_
  refine wr_aload_n (wg_da dt_X12_readDocketLine 3 rfl) rfl ?_
  refine wr_bipush (17 : Int32) (wg_da dt_X12_readDocketLine 4 rfl) (by decide) ?_
  refine wr_iconst (0 : Int32) (wg_da dt_X12_readDocketLine 5 rfl) (by decide) ?_
  refine wr_sipush (999 : Int32) (wg_da dt_X12_readDocketLine 6 rfl) (by decide) ?_
  refine wr_callVi [.int (17 : Int32), .int (0 : Int32), .int (999 : Int32)] [.int x1, .ref (wg_r Sm x0 38)] (wg_da dt_X12_readDocketLine 7 rfl) ⟨wq_7_198, wq_7_200, wq_p5_9⟩ hx0 ⟨rfl, by decide⟩ wy_X12_readTold (fun q hq => m_X12_readTold l E x0 (17 : Int32) (0 : Int32) (999 : Int32) hx0 _ q hq) rfl rfl (Nat.le_of_ble_eq_true rfl) ⟨rfl, rfl, by decide, by decide⟩ h (fun v1 s2 h => ?_)
  refine wr_iast (wg_da dt_X12_readDocketLine 8 rfl) (wg_ty Sm_ok 12 38 0 hx0 rfl (by decide)).2 h (fun s3 h => ?_)
  refine wr_aload_n (wg_da dt_X12_readDocketLine 9 rfl) rfl ?_
  refine wr_getR wf_X12_68 (wg_da dt_X12_readDocketLine 10 rfl) hx0 ?_
  refine wr_iload_n (wg_da dt_X12_readDocketLine 11 rfl) rfl ?_
  refine wr_iald (wg_da dt_X12_readDocketLine 12 rfl) (wg_ty Sm_ok 12 38 0 hx0 rfl (by decide)).2 h (fun v4 h => ?_)
  refine wr_iconst (-1 : Int32) (wg_da dt_X12_readDocketLine 13 rfl) (by decide) ?_
  refine wr_icmp_ne 28 (wg_da dt_X12_readDocketLine 14 rfl) (by decide) h (fun h => ?_) (fun h => ?_)
  · refine wr_iconst (-1 : Int32) (wg_da dt_X12_readDocketLine 15 rfl) (by decide) ?_
    exact wr_iret (wg_da dt_X12_readDocketLine 16 rfl) h
  · refine wr_aload_n (wg_da dt_X12_readDocketLine 17 rfl) rfl ?_
    refine wr_getR wf_X12_68 (wg_da dt_X12_readDocketLine 18 rfl) hx0 ?_
    refine wr_iload_n (wg_da dt_X12_readDocketLine 19 rfl) rfl ?_
    refine wr_iconst (1 : Int32) (wg_da dt_X12_readDocketLine 20 rfl) (by decide) ?_
    refine wr_iadd (wg_da dt_X12_readDocketLine 21 rfl) ?_
    refine wr_aload_n (wg_da dt_X12_readDocketLine 22 rfl) rfl ?_
    refine wr_bipush (18 : Int32) (wg_da dt_X12_readDocketLine 23 rfl) (by decide) ?_
    refine wr_iconst (0 : Int32) (wg_da dt_X12_readDocketLine 24 rfl) (by decide) ?_
    refine wr_aload_n (wg_da dt_X12_readDocketLine 25 rfl) rfl ?_
    refine wr_getI wf_X12_131 (wg_da dt_X12_readDocketLine 26 rfl) hx0 ?_
    refine wr_iconst (1 : Int32) (wg_da dt_X12_readDocketLine 27 rfl) (by decide) ?_
    refine wr_isub (wg_da dt_X12_readDocketLine 28 rfl) ?_
    refine wr_callVi [.int (18 : Int32), .int (0 : Int32), .int ((s3 x0 8) - (1 : Int32))] [.int (x1 + (1 : Int32)), .ref (wg_r Sm x0 38)] (wg_da dt_X12_readDocketLine 29 rfl) ⟨wq_7_198, wq_7_200, wq_p5_9⟩ hx0 ⟨rfl, by decide⟩ wy_X12_readTold (fun q hq => m_X12_readTold l E x0 (18 : Int32) (0 : Int32) ((s3 x0 8) - (1 : Int32)) hx0 _ q hq) rfl rfl (Nat.le_of_ble_eq_true rfl) ⟨rfl, rfl, by decide, by decide⟩ h (fun v5 s6 h => ?_)
    refine wr_iast (wg_da dt_X12_readDocketLine 30 rfl) (wg_ty Sm_ok 12 38 0 hx0 rfl (by decide)).2 h (fun s7 h => ?_)
    refine wr_aload_n (wg_da dt_X12_readDocketLine 31 rfl) rfl ?_
    refine wr_getR wf_X12_68 (wg_da dt_X12_readDocketLine 32 rfl) hx0 ?_
    refine wr_iload_n (wg_da dt_X12_readDocketLine 33 rfl) rfl ?_
    refine wr_iconst (1 : Int32) (wg_da dt_X12_readDocketLine 34 rfl) (by decide) ?_
    refine wr_iadd (wg_da dt_X12_readDocketLine 35 rfl) ?_
    refine wr_iald (wg_da dt_X12_readDocketLine 36 rfl) (wg_ty Sm_ok 12 38 0 hx0 rfl (by decide)).2 h (fun v8 h => ?_)
    refine wr_iconst (-1 : Int32) (wg_da dt_X12_readDocketLine 37 rfl) (by decide) ?_
    refine wr_icmp_ne 63 (wg_da dt_X12_readDocketLine 38 rfl) (by decide) h (fun h => ?_) (fun h => ?_)
    · refine wr_iconst (-1 : Int32) (wg_da dt_X12_readDocketLine 39 rfl) (by decide) ?_
      exact wr_iret (wg_da dt_X12_readDocketLine 40 rfl) h
    · refine wr_aload_n (wg_da dt_X12_readDocketLine 41 rfl) rfl ?_
      refine wr_getR wf_X12_68 (wg_da dt_X12_readDocketLine 42 rfl) hx0 ?_
      refine wr_iload_n (wg_da dt_X12_readDocketLine 43 rfl) rfl ?_
      refine wr_iconst (2 : Int32) (wg_da dt_X12_readDocketLine 44 rfl) (by decide) ?_
      refine wr_iadd (wg_da dt_X12_readDocketLine 45 rfl) ?_
      refine wr_aload_n (wg_da dt_X12_readDocketLine 46 rfl) rfl ?_
      refine wr_bipush (19 : Int32) (wg_da dt_X12_readDocketLine 47 rfl) (by decide) ?_
      refine wr_iconst (0 : Int32) (wg_da dt_X12_readDocketLine 48 rfl) (by decide) ?_
      refine wr_aload_n (wg_da dt_X12_readDocketLine 49 rfl) rfl ?_
      refine wr_getI wf_X12_128 (wg_da dt_X12_readDocketLine 50 rfl) hx0 ?_
      refine wr_iconst (1 : Int32) (wg_da dt_X12_readDocketLine 51 rfl) (by decide) ?_
      refine wr_isub (wg_da dt_X12_readDocketLine 52 rfl) ?_
      refine wr_callVi [.int (19 : Int32), .int (0 : Int32), .int ((s7 x0 7) - (1 : Int32))] [.int (x1 + (2 : Int32)), .ref (wg_r Sm x0 38)] (wg_da dt_X12_readDocketLine 53 rfl) ⟨wq_7_198, wq_7_200, wq_p5_9⟩ hx0 ⟨rfl, by decide⟩ wy_X12_readTold (fun q hq => m_X12_readTold l E x0 (19 : Int32) (0 : Int32) ((s7 x0 7) - (1 : Int32)) hx0 _ q hq) rfl rfl (Nat.le_of_ble_eq_true rfl) ⟨rfl, rfl, by decide, by decide⟩ h (fun v9 s10 h => ?_)
      refine wr_iast (wg_da dt_X12_readDocketLine 54 rfl) (wg_ty Sm_ok 12 38 0 hx0 rfl (by decide)).2 h (fun s11 h => ?_)
      refine wr_aload_n (wg_da dt_X12_readDocketLine 55 rfl) rfl ?_
      refine wr_getR wf_X12_68 (wg_da dt_X12_readDocketLine 56 rfl) hx0 ?_
      refine wr_iload_n (wg_da dt_X12_readDocketLine 57 rfl) rfl ?_
      refine wr_iconst (2 : Int32) (wg_da dt_X12_readDocketLine 58 rfl) (by decide) ?_
      refine wr_iadd (wg_da dt_X12_readDocketLine 59 rfl) ?_
      refine wr_iald (wg_da dt_X12_readDocketLine 60 rfl) (wg_ty Sm_ok 12 38 0 hx0 rfl (by decide)).2 h (fun v12 h => ?_)
      refine wr_iconst (-1 : Int32) (wg_da dt_X12_readDocketLine 61 rfl) (by decide) ?_
      refine wr_icmp_ne 100 (wg_da dt_X12_readDocketLine 62 rfl) (by decide) h (fun h => ?_) (fun h => ?_)
      · refine wr_iconst (-1 : Int32) (wg_da dt_X12_readDocketLine 63 rfl) (by decide) ?_
        refine wr_goto 106 (wg_da dt_X12_readDocketLine 64 rfl) (by decide) ?_
        exact wr_iret (wg_da dt_X12_readDocketLine 68 rfl) h
      · refine wr_aload_n (wg_da dt_X12_readDocketLine 65 rfl) rfl ?_
        refine wr_bipush (59 : Int32) (wg_da dt_X12_readDocketLine 66 rfl) (by decide) ?_
        refine wr_callVi [.int (59 : Int32)] [] (wg_da dt_X12_readDocketLine 67 rfl) ⟨wq_7_206, wq_7_208, wq_p5_11⟩ hx0 ⟨rfl, by decide⟩ wy_X12_readMark (fun q hq => m_X12_readMark l E x0 (59 : Int32) hx0 _ q hq) rfl rfl (Nat.le_of_ble_eq_true rfl) ⟨rfl, rfl, by decide, by decide⟩ h (fun v13 s14 h => ?_)
        exact wr_iret (wg_da dt_X12_readDocketLine 68 rfl) h
theorem m_X12_readDocketLine (l : Launch) (E : wg_E) (x0 : Nat) (x1 : Int32) (hx0 : wg_t Sm x0 = 14) (σ : wg_M) (q : Int32 × wg_M) (h : f_X12_readDocketLine x0 x1 σ = some q) : wg_MG l E Sm yX12_readDocketLine cX12_readDocketLine 2 (some .int) rm_X12_readDocketLine [.ref x0, .int x1] σ (some q.1) q.2 :=
  wg_met [.ref x0, .int x1] (plainFor_of_name (by decide)) (Nat.le_of_ble_eq_true rfl) (g_X12_readDocketLine_e l E x0 x1 σ q hx0 h)
abbrev rm_X12_readDocket : Room := { frames := 6, cells := 0, slots := 0, locals := 132 }
def tb_X12_readDocket : List (Nat × Instr × Nat) := [(0, .iconst 0, 1), (1, .istore_n 1, 1), (2, .aload_n 0, 1), (3, .bipush 17, 2), (5, .invokevirtual 247, 3), (8, .ifCond .eq 38, 3), (11, .iload_n 1, 1), (12, .bipush 16, 2), (14, .if_icmp .ne 9, 3), (17, .aload_n 0, 1), (18, .iconst 3, 1), (19, .invokevirtual 218, 3), (22, .ireturn, 1), (23, .aload_n 0, 1), (24, .bipush 48, 2), (26, .iconst 3, 1), (27, .iload_n 1, 1), (28, .imul, 1), (29, .iadd, 1), (30, .invokevirtual 279, 3), (33, .iconst (-1), 1), (34, .if_icmp .ne 5, 3), (37, .iconst (-1), 1), (38, .ireturn, 1), (39, .iload_n 1, 1), (40, .iconst 1, 1), (41, .iadd, 1), (42, .istore_n 1, 1), (43, .goto (-41), 3), (46, .aload_n 0, 1), (47, .getfield 188, 3), (50, .ifCond .ne 7, 3), (53, .iload_n 1, 1), (54, .goto 8, 3), (57, .aload_n 0, 1), (58, .iconst 1, 1), (59, .invokevirtual 218, 3), (62, .ireturn, 1)]
theorem dt_X12_readDocket : wg_dc cX12_readDocket tb_X12_readDocket := by unfold wg_dc; decide +kernel
def f_X12_readDocket_2  : Nat → Nat → Int32 → wg_M → Option (Int32 × wg_M)
  | 0, _, _, _ => none
  | n + 1, x0, x1, σ => wg_bd (f_X12_isWord x0 (17 : Int32) σ) (fun v1 s2 => if v1 = 0 then (if (s2 x0 18) = 0 then (some (x1, s2)) else (wg_bd (f_X12_errs x0 (1 : Int32) s2) (fun v3 s4 => some (v3, s4)))) else (if x1 = (16 : Int32) then (wg_bd (f_X12_errs x0 (3 : Int32) s2) (fun v8 s9 => some (v8, s9))) else (wg_bd (f_X12_readDocketLine x0 ((48 : Int32) + ((3 : Int32) * x1)) s2) (fun v5 s6 => if v5 = (-1 : Int32) then (some ((-1 : Int32), s6)) else (wg_let (x1 + (1 : Int32)) (fun v7 => f_X12_readDocket_2  n x0 v7 s6))))))
def f_X12_readDocket  (x0 : Nat) (σ : wg_M) : Option (Int32 × wg_M) := f_X12_readDocket_2  wg_N x0 (0 : Int32) σ
set_option maxRecDepth 20000 in
theorem g_X12_readDocket_2 (l : Launch) (E : wg_E)  (z : Int32 × wg_M) : ∀ (n : Nat) (x0 : Nat) (x1 : Int32) (σ : wg_M) (hx0 : wg_t Sm x0 = 14) (h : f_X12_readDocket_2  n x0 x1 σ = some z), wg_G l E Sm "WornWigsModel" cX12_readDocket 2 (some .int) rm_X12_readDocket (some z.1) z.2 2 [some (.ref x0), some (.int x1)] [] σ := by
  intro n
  induction n with
  | zero => intro x0 x1 σ hx0 h; cases h
  | succ n ih =>
    intro x0 x1 σ hx0 h
    refine wr_aload_n (wg_da dt_X12_readDocket 2 rfl) rfl ?_
    refine wr_bipush (17 : Int32) (wg_da dt_X12_readDocket 3 rfl) (by decide) ?_
    refine wr_callVi [.int (17 : Int32)] [] (wg_da dt_X12_readDocket 4 rfl) ⟨wq_7_186, wq_7_188, wq_p5_6⟩ hx0 ⟨rfl, by decide⟩ wy_X12_isWord (fun q hq => m_X12_isWord l E x0 (17 : Int32) hx0 _ q hq) rfl rfl (Nat.le_of_ble_eq_true rfl) ⟨rfl, rfl, by decide, by decide⟩ h (fun v1 s2 h => ?_)
    refine wr_if_eq 46 (wg_da dt_X12_readDocket 5 rfl) (by decide) h (fun h => ?_) (fun h => ?_)
    · refine wr_aload_n (wg_da dt_X12_readDocket 29 rfl) rfl ?_
      refine wr_getI wf_X12_188 (wg_da dt_X12_readDocket 30 rfl) hx0 ?_
      refine wr_if_ne 57 (wg_da dt_X12_readDocket 31 rfl) (by decide) h (fun h => ?_) (fun h => ?_)
      · refine wr_iload_n (wg_da dt_X12_readDocket 32 rfl) rfl ?_
        refine wr_goto 62 (wg_da dt_X12_readDocket 33 rfl) (by decide) ?_
        exact wr_iret (wg_da dt_X12_readDocket 37 rfl) h
      · refine wr_aload_n (wg_da dt_X12_readDocket 34 rfl) rfl ?_
        refine wr_iconst (1 : Int32) (wg_da dt_X12_readDocket 35 rfl) (by decide) ?_
        refine wr_callVi [.int (1 : Int32)] [] (wg_da dt_X12_readDocket 36 rfl) ⟨wq_7_190, wq_7_192, wq_p5_7⟩ hx0 ⟨rfl, by decide⟩ wy_X12_errs (fun q hq => m_X12_errs l E x0 (1 : Int32) hx0 _ q hq) rfl rfl (Nat.le_of_ble_eq_true rfl) ⟨rfl, rfl, by decide, by decide⟩ h (fun v3 s4 h => ?_)
        exact wr_iret (wg_da dt_X12_readDocket 37 rfl) h
    · refine wr_iload_n (wg_da dt_X12_readDocket 6 rfl) rfl ?_
      refine wr_bipush (16 : Int32) (wg_da dt_X12_readDocket 7 rfl) (by decide) ?_
      refine wr_icmp_ne 23 (wg_da dt_X12_readDocket 8 rfl) (by decide) h (fun h => ?_) (fun h => ?_)
      · refine wr_aload_n (wg_da dt_X12_readDocket 9 rfl) rfl ?_
        refine wr_iconst (3 : Int32) (wg_da dt_X12_readDocket 10 rfl) (by decide) ?_
        refine wr_callVi [.int (3 : Int32)] [] (wg_da dt_X12_readDocket 11 rfl) ⟨wq_7_190, wq_7_192, wq_p5_7⟩ hx0 ⟨rfl, by decide⟩ wy_X12_errs (fun q hq => m_X12_errs l E x0 (3 : Int32) hx0 _ q hq) rfl rfl (Nat.le_of_ble_eq_true rfl) ⟨rfl, rfl, by decide, by decide⟩ h (fun v8 s9 h => ?_)
        exact wr_iret (wg_da dt_X12_readDocket 12 rfl) h
      · refine wr_aload_n (wg_da dt_X12_readDocket 13 rfl) rfl ?_
        refine wr_bipush (48 : Int32) (wg_da dt_X12_readDocket 14 rfl) (by decide) ?_
        refine wr_iconst (3 : Int32) (wg_da dt_X12_readDocket 15 rfl) (by decide) ?_
        refine wr_iload_n (wg_da dt_X12_readDocket 16 rfl) rfl ?_
        refine wr_imul (wg_da dt_X12_readDocket 17 rfl) ?_
        refine wr_iadd (wg_da dt_X12_readDocket 18 rfl) ?_
        refine wr_callVi [.int ((48 : Int32) + ((3 : Int32) * x1))] [] (wg_da dt_X12_readDocket 19 rfl) ⟨wq_7_194, wq_7_196, wq_p5_8⟩ hx0 ⟨rfl, by decide⟩ wy_X12_readDocketLine (fun q hq => m_X12_readDocketLine l E x0 ((48 : Int32) + ((3 : Int32) * x1)) hx0 _ q hq) rfl rfl (Nat.le_of_ble_eq_true rfl) ⟨rfl, rfl, by decide, by decide⟩ h (fun v5 s6 h => ?_)
        refine wr_iconst (-1 : Int32) (wg_da dt_X12_readDocket 20 rfl) (by decide) ?_
        refine wr_icmp_ne 39 (wg_da dt_X12_readDocket 21 rfl) (by decide) h (fun h => ?_) (fun h => ?_)
        · refine wr_iconst (-1 : Int32) (wg_da dt_X12_readDocket 22 rfl) (by decide) ?_
          exact wr_iret (wg_da dt_X12_readDocket 23 rfl) h
        · refine wr_iload_n (wg_da dt_X12_readDocket 24 rfl) rfl ?_
          refine wr_iconst (1 : Int32) (wg_da dt_X12_readDocket 25 rfl) (by decide) ?_
          refine wr_iadd (wg_da dt_X12_readDocket 26 rfl) ?_
          refine wr_let h (fun v7 h => ?_)
          refine wr_istore_n (wg_da dt_X12_readDocket 27 rfl) (by decide) ?_
          refine wr_goto 2 (wg_da dt_X12_readDocket 28 rfl) (by decide) ?_
          exact wr_wk [true, true] (ih x0 v7 s6 hx0 h)
set_option maxRecDepth 20000 in
theorem g_X12_readDocket_e (l : Launch) (E : wg_E)  (x0 : Nat) (σ : wg_M) (z : Int32 × wg_M) (hx0 : wg_t Sm x0 = 14) (h : f_X12_readDocket  x0 σ = some z) : wg_G l E Sm "WornWigsModel" cX12_readDocket 2 (some .int) rm_X12_readDocket (some z.1) z.2 0 [some (.ref x0), none] [] σ := by
  refine wr_iconst (0 : Int32) (wg_da dt_X12_readDocket 0 rfl) (by decide) ?_
  refine wr_istore_n (wg_da dt_X12_readDocket 1 rfl) (by decide) ?_
  exact wr_wk [true, true] (g_X12_readDocket_2 l E  _  wg_N x0 (0 : Int32) σ hx0 h)
theorem m_X12_readDocket (l : Launch) (E : wg_E) (x0 : Nat) (hx0 : wg_t Sm x0 = 14) (σ : wg_M) (q : Int32 × wg_M) (h : f_X12_readDocket x0 σ = some q) : wg_MG l E Sm yX12_readDocket cX12_readDocket 2 (some .int) rm_X12_readDocket [.ref x0] σ (some q.1) q.2 :=
  wg_met [.ref x0] (plainFor_of_name (by decide)) (Nat.le_of_ble_eq_true rfl) (g_X12_readDocket_e l E x0 σ q hx0 h)
abbrev rm_X12_kindOfLoan : Room := { frames := 1, cells := 0, slots := 0, locals := 23 }
def tb_X12_kindOfLoan : List (Nat × Instr × Nat) := [(0, .aload_n 0, 1), (1, .bipush 20, 2), (3, .invokevirtual 247, 3), (6, .ifCond .eq 5, 3), (9, .iconst 0, 1), (10, .ireturn, 1), (11, .aload_n 0, 1), (12, .getfield 188, 3), (15, .iconst 2, 1), (16, .if_icmp .ne 30, 3), (19, .aload_n 0, 1), (20, .aload_n 0, 1), (21, .getfield 191, 3), (24, .bipush 22, 2), (26, .bipush 24, 2), (28, .invokevirtual 153, 3), (31, .ifCond .eq 15, 3), (34, .iconst 1, 1), (35, .aload_n 0, 1), (36, .getfield 191, 3), (39, .iadd, 1), (40, .bipush 22, 2), (42, .isub, 1), (43, .goto 4, 3), (46, .iconst (-1), 1), (47, .ireturn, 1)]
theorem dt_X12_kindOfLoan : wg_dc cX12_kindOfLoan tb_X12_kindOfLoan := by unfold wg_dc; decide +kernel
def f_X12_kindOfLoan  (x0 : Nat) (σ : wg_M) : Option (Int32 × wg_M) := wg_bd (f_X12_isWord x0 (20 : Int32) σ) (fun v1 s2 => if v1 = 0 then (if (s2 x0 18) = (2 : Int32) then (wg_bd (f_X12_isIn x0 (s2 x0 19) (22 : Int32) (24 : Int32) s2) (fun v3 s4 => if v3 = 0 then (some ((-1 : Int32), s4)) else (some (((1 : Int32) + (s4 x0 19)) - (22 : Int32), s4)))) else (some ((-1 : Int32), s2))) else (some ((0 : Int32), s2)))
set_option maxRecDepth 20000 in
theorem g_X12_kindOfLoan_e (l : Launch) (E : wg_E)  (x0 : Nat) (σ : wg_M) (z : Int32 × wg_M) (hx0 : wg_t Sm x0 = 14) (h : f_X12_kindOfLoan  x0 σ = some z) : wg_G l E Sm "WornWigsModel" cX12_kindOfLoan 1 (some .int) rm_X12_kindOfLoan (some z.1) z.2 0 [some (.ref x0)] [] σ := by
  refine wr_aload_n (wg_da dt_X12_kindOfLoan 0 rfl) rfl ?_
  refine wr_bipush (20 : Int32) (wg_da dt_X12_kindOfLoan 1 rfl) (by decide) ?_
  refine wr_callVi [.int (20 : Int32)] [] (wg_da dt_X12_kindOfLoan 2 rfl) ⟨wq_7_186, wq_7_188, wq_p5_6⟩ hx0 ⟨rfl, by decide⟩ wy_X12_isWord (fun q hq => m_X12_isWord l E x0 (20 : Int32) hx0 _ q hq) rfl rfl (Nat.le_of_ble_eq_true rfl) ⟨rfl, rfl, by decide, by decide⟩ h (fun v1 s2 h => ?_)
  refine wr_if_eq 11 (wg_da dt_X12_kindOfLoan 3 rfl) (by decide) h (fun h => ?_) (fun h => ?_)
  · refine wr_aload_n (wg_da dt_X12_kindOfLoan 6 rfl) rfl ?_
    refine wr_getI wf_X12_188 (wg_da dt_X12_kindOfLoan 7 rfl) hx0 ?_
    refine wr_iconst (2 : Int32) (wg_da dt_X12_kindOfLoan 8 rfl) (by decide) ?_
    refine wr_icmp_ne 46 (wg_da dt_X12_kindOfLoan 9 rfl) (by decide) h (fun h => ?_) (fun h => ?_)
    · refine wr_aload_n (wg_da dt_X12_kindOfLoan 10 rfl) rfl ?_
      refine wr_aload_n (wg_da dt_X12_kindOfLoan 11 rfl) rfl ?_
      refine wr_getI wf_X12_191 (wg_da dt_X12_kindOfLoan 12 rfl) hx0 ?_
      refine wr_bipush (22 : Int32) (wg_da dt_X12_kindOfLoan 13 rfl) (by decide) ?_
      refine wr_bipush (24 : Int32) (wg_da dt_X12_kindOfLoan 14 rfl) (by decide) ?_
      refine wr_callVi [.int (s2 x0 19), .int (22 : Int32), .int (24 : Int32)] [] (wg_da dt_X12_kindOfLoan 15 rfl) ⟨wq_7_82, wq_7_84, wq_p4_3⟩ hx0 ⟨rfl, by decide⟩ wy_X12_isIn (fun q hq => m_X12_isIn l E x0 (s2 x0 19) (22 : Int32) (24 : Int32) hx0 _ q hq) rfl rfl (Nat.le_of_ble_eq_true rfl) ⟨rfl, rfl, by decide, by decide⟩ h (fun v3 s4 h => ?_)
      refine wr_if_eq 46 (wg_da dt_X12_kindOfLoan 16 rfl) (by decide) h (fun h => ?_) (fun h => ?_)
      · refine wr_iconst (-1 : Int32) (wg_da dt_X12_kindOfLoan 24 rfl) (by decide) ?_
        exact wr_iret (wg_da dt_X12_kindOfLoan 25 rfl) h
      · refine wr_iconst (1 : Int32) (wg_da dt_X12_kindOfLoan 17 rfl) (by decide) ?_
        refine wr_aload_n (wg_da dt_X12_kindOfLoan 18 rfl) rfl ?_
        refine wr_getI wf_X12_191 (wg_da dt_X12_kindOfLoan 19 rfl) hx0 ?_
        refine wr_iadd (wg_da dt_X12_kindOfLoan 20 rfl) ?_
        refine wr_bipush (22 : Int32) (wg_da dt_X12_kindOfLoan 21 rfl) (by decide) ?_
        refine wr_isub (wg_da dt_X12_kindOfLoan 22 rfl) ?_
        refine wr_goto 47 (wg_da dt_X12_kindOfLoan 23 rfl) (by decide) ?_
        exact wr_iret (wg_da dt_X12_kindOfLoan 25 rfl) h
    · refine wr_iconst (-1 : Int32) (wg_da dt_X12_kindOfLoan 24 rfl) (by decide) ?_
      exact wr_iret (wg_da dt_X12_kindOfLoan 25 rfl) h
  · refine wr_iconst (0 : Int32) (wg_da dt_X12_kindOfLoan 4 rfl) (by decide) ?_
    exact wr_iret (wg_da dt_X12_kindOfLoan 5 rfl) h
theorem m_X12_kindOfLoan (l : Launch) (E : wg_E) (x0 : Nat) (hx0 : wg_t Sm x0 = 14) (σ : wg_M) (q : Int32 × wg_M) (h : f_X12_kindOfLoan x0 σ = some q) : wg_MG l E Sm yX12_kindOfLoan cX12_kindOfLoan 1 (some .int) rm_X12_kindOfLoan [.ref x0] σ (some q.1) q.2 :=
  wg_met [.ref x0] (plainFor_of_name (by decide)) (Nat.le_of_ble_eq_true rfl) (g_X12_kindOfLoan_e l E x0 σ q hx0 h)
abbrev rm_X12_readLoanMore : Room := { frames := 5, cells := 0, slots := 0, locals := 111 }
def tb_X12_readLoanMore : List (Nat × Instr × Nat) := [(0, .iload_n 1, 1), (1, .ifCond .ne 17, 3), (4, .aload_n 0, 1), (5, .bipush 21, 2), (7, .iconst 0, 1), (8, .aload_n 0, 1), (9, .getfield 128, 3), (12, .iconst 1, 1), (13, .isub, 1), (14, .invokevirtual 272, 3), (17, .ireturn, 1), (18, .iload_n 1, 1), (19, .iconst 2, 1), (20, .if_icmp .ne 11, 3), (23, .aload_n 0, 1), (24, .iconst 0, 1), (25, .bipush 7, 2), (27, .invokevirtual 269, 3), (30, .ireturn, 1), (31, .iload_n 1, 1), (32, .iconst 3, 1), (33, .if_icmp .ne 13, 3), (36, .aload_n 0, 1), (37, .iconst 1, 1), (38, .bipush 99, 2), (40, .invokevirtual 269, 3), (43, .goto 4, 3), (46, .iconst 0, 1), (47, .ireturn, 1)]
theorem dt_X12_readLoanMore : wg_dc cX12_readLoanMore tb_X12_readLoanMore := by unfold wg_dc; decide +kernel
def f_X12_readLoanMore  (x0 : Nat) (x1 : Int32) (σ : wg_M) : Option (Int32 × wg_M) := if x1 = 0 then (wg_bd (f_X12_readTold x0 (21 : Int32) (0 : Int32) ((σ x0 7) - (1 : Int32)) σ) (fun v5 s6 => some (v5, s6))) else (if x1 = (2 : Int32) then (wg_bd (f_X12_readNumber x0 (0 : Int32) (7 : Int32) σ) (fun v3 s4 => some (v3, s4))) else (if x1 = (3 : Int32) then (wg_bd (f_X12_readNumber x0 (1 : Int32) (99 : Int32) σ) (fun v1 s2 => some (v1, s2))) else (some ((0 : Int32), σ))))
set_option maxRecDepth 20000 in
theorem g_X12_readLoanMore_e (l : Launch) (E : wg_E)  (x0 : Nat) (x1 : Int32) (σ : wg_M) (z : Int32 × wg_M) (hx0 : wg_t Sm x0 = 14) (h : f_X12_readLoanMore  x0 x1 σ = some z) : wg_G l E Sm "WornWigsModel" cX12_readLoanMore 2 (some .int) rm_X12_readLoanMore (some z.1) z.2 0 [some (.ref x0), some (.int x1)] [] σ := by
  refine wr_iload_n (wg_da dt_X12_readLoanMore 0 rfl) rfl ?_
  refine wr_if_ne 18 (wg_da dt_X12_readLoanMore 1 rfl) (by decide) h (fun h => ?_) (fun h => ?_)
  · refine wr_aload_n (wg_da dt_X12_readLoanMore 2 rfl) rfl ?_
    refine wr_bipush (21 : Int32) (wg_da dt_X12_readLoanMore 3 rfl) (by decide) ?_
    refine wr_iconst (0 : Int32) (wg_da dt_X12_readLoanMore 4 rfl) (by decide) ?_
    refine wr_aload_n (wg_da dt_X12_readLoanMore 5 rfl) rfl ?_
    refine wr_getI wf_X12_128 (wg_da dt_X12_readLoanMore 6 rfl) hx0 ?_
    refine wr_iconst (1 : Int32) (wg_da dt_X12_readLoanMore 7 rfl) (by decide) ?_
    refine wr_isub (wg_da dt_X12_readLoanMore 8 rfl) ?_
    refine wr_callVi [.int (21 : Int32), .int (0 : Int32), .int ((σ x0 7) - (1 : Int32))] [] (wg_da dt_X12_readLoanMore 9 rfl) ⟨wq_7_198, wq_7_200, wq_p5_9⟩ hx0 ⟨rfl, by decide⟩ wy_X12_readTold (fun q hq => m_X12_readTold l E x0 (21 : Int32) (0 : Int32) ((σ x0 7) - (1 : Int32)) hx0 _ q hq) rfl rfl (Nat.le_of_ble_eq_true rfl) ⟨rfl, rfl, by decide, by decide⟩ h (fun v5 s6 h => ?_)
    exact wr_iret (wg_da dt_X12_readLoanMore 10 rfl) h
  · refine wr_iload_n (wg_da dt_X12_readLoanMore 11 rfl) rfl ?_
    refine wr_iconst (2 : Int32) (wg_da dt_X12_readLoanMore 12 rfl) (by decide) ?_
    refine wr_icmp_ne 31 (wg_da dt_X12_readLoanMore 13 rfl) (by decide) h (fun h => ?_) (fun h => ?_)
    · refine wr_aload_n (wg_da dt_X12_readLoanMore 14 rfl) rfl ?_
      refine wr_iconst (0 : Int32) (wg_da dt_X12_readLoanMore 15 rfl) (by decide) ?_
      refine wr_bipush (7 : Int32) (wg_da dt_X12_readLoanMore 16 rfl) (by decide) ?_
      refine wr_callVi [.int (0 : Int32), .int (7 : Int32)] [] (wg_da dt_X12_readLoanMore 17 rfl) ⟨wq_7_202, wq_7_204, wq_p5_10⟩ hx0 ⟨rfl, by decide⟩ wy_X12_readNumber (fun q hq => m_X12_readNumber l E x0 (0 : Int32) (7 : Int32) hx0 _ q hq) rfl rfl (Nat.le_of_ble_eq_true rfl) ⟨rfl, rfl, by decide, by decide⟩ h (fun v3 s4 h => ?_)
      exact wr_iret (wg_da dt_X12_readLoanMore 18 rfl) h
    · refine wr_iload_n (wg_da dt_X12_readLoanMore 19 rfl) rfl ?_
      refine wr_iconst (3 : Int32) (wg_da dt_X12_readLoanMore 20 rfl) (by decide) ?_
      refine wr_icmp_ne 46 (wg_da dt_X12_readLoanMore 21 rfl) (by decide) h (fun h => ?_) (fun h => ?_)
      · refine wr_aload_n (wg_da dt_X12_readLoanMore 22 rfl) rfl ?_
        refine wr_iconst (1 : Int32) (wg_da dt_X12_readLoanMore 23 rfl) (by decide) ?_
        refine wr_bipush (99 : Int32) (wg_da dt_X12_readLoanMore 24 rfl) (by decide) ?_
        refine wr_callVi [.int (1 : Int32), .int (99 : Int32)] [] (wg_da dt_X12_readLoanMore 25 rfl) ⟨wq_7_202, wq_7_204, wq_p5_10⟩ hx0 ⟨rfl, by decide⟩ wy_X12_readNumber (fun q hq => m_X12_readNumber l E x0 (1 : Int32) (99 : Int32) hx0 _ q hq) rfl rfl (Nat.le_of_ble_eq_true rfl) ⟨rfl, rfl, by decide, by decide⟩ h (fun v1 s2 h => ?_)
        refine wr_goto 47 (wg_da dt_X12_readLoanMore 26 rfl) (by decide) ?_
        exact wr_iret (wg_da dt_X12_readLoanMore 28 rfl) h
      · refine wr_iconst (0 : Int32) (wg_da dt_X12_readLoanMore 27 rfl) (by decide) ?_
        exact wr_iret (wg_da dt_X12_readLoanMore 28 rfl) h
theorem m_X12_readLoanMore (l : Launch) (E : wg_E) (x0 : Nat) (x1 : Int32) (hx0 : wg_t Sm x0 = 14) (σ : wg_M) (q : Int32 × wg_M) (h : f_X12_readLoanMore x0 x1 σ = some q) : wg_MG l E Sm yX12_readLoanMore cX12_readLoanMore 2 (some .int) rm_X12_readLoanMore [.ref x0, .int x1] σ (some q.1) q.2 :=
  wg_met [.ref x0, .int x1] (plainFor_of_name (by decide)) (Nat.le_of_ble_eq_true rfl) (g_X12_readLoanMore_e l E x0 x1 σ q hx0 h)
abbrev rm_X12_readLoan : Room := { frames := 6, cells := 0, slots := 0, locals := 132 }
def tb_X12_readLoan : List (Nat × Instr × Nat) := [(0, .aload_n 0, 1), (1, .getfield 71, 3), (4, .iload_n 1, 1), (5, .aload_n 0, 1), (6, .bipush 17, 2), (8, .iconst 0, 1), (9, .sipush 999, 3), (12, .invokevirtual 272, 3), (15, .iastore, 1), (16, .aload_n 0, 1), (17, .getfield 71, 3), (20, .iload_n 1, 1), (21, .iaload, 1), (22, .iconst (-1), 1), (23, .if_icmp .ne 5, 3), (26, .iconst (-1), 1), (27, .ireturn, 1), (28, .aload_n 0, 1), (29, .invokevirtual 282, 3), (32, .istore_n 2, 1), (33, .iload_n 2, 1), (34, .iconst (-1), 1), (35, .if_icmp .ne 9, 3), (38, .aload_n 0, 1), (39, .iconst 1, 1), (40, .invokevirtual 218, 3), (43, .ireturn, 1), (44, .aload_n 0, 1), (45, .invokevirtual 225, 3), (48, .aload_n 0, 1), (49, .getfield 71, 3), (52, .iload_n 1, 1), (53, .iconst 1, 1), (54, .iadd, 1), (55, .iload_n 2, 1), (56, .iastore, 1), (57, .aload_n 0, 1), (58, .getfield 71, 3), (61, .iload_n 1, 1), (62, .iconst 2, 1), (63, .iadd, 1), (64, .aload_n 0, 1), (65, .iconst 0, 1), (66, .aload_n 0, 1), (67, .getfield 125, 3), (70, .iconst 1, 1), (71, .isub, 1), (72, .invokevirtual 269, 3), (75, .iastore, 1), (76, .aload_n 0, 1), (77, .getfield 71, 3), (80, .iload_n 1, 1), (81, .iconst 2, 1), (82, .iadd, 1), (83, .iaload, 1), (84, .iconst (-1), 1), (85, .if_icmp .ne 5, 3), (88, .iconst (-1), 1), (89, .ireturn, 1), (90, .aload_n 0, 1), (91, .getfield 71, 3), (94, .iload_n 1, 1), (95, .iconst 3, 1), (96, .iadd, 1), (97, .aload_n 0, 1), (98, .iload_n 2, 1), (99, .invokevirtual 285, 3), (102, .iastore, 1), (103, .aload_n 0, 1), (104, .getfield 71, 3), (107, .iload_n 1, 1), (108, .iconst 3, 1), (109, .iadd, 1), (110, .iaload, 1), (111, .iconst (-1), 1), (112, .if_icmp .ne 7, 3), (115, .iconst (-1), 1), (116, .goto 9, 3), (119, .aload_n 0, 1), (120, .bipush 59, 2), (122, .invokevirtual 276, 3), (125, .ireturn, 1)]
theorem dt_X12_readLoan : wg_dc cX12_readLoan tb_X12_readLoan := by unfold wg_dc; decide +kernel
def f_X12_readLoan  (x0 : Nat) (x1 : Int32) (σ : wg_M) : Option (Int32 × wg_M) := wg_bd (f_X12_readTold x0 (17 : Int32) (0 : Int32) (999 : Int32) σ) (fun v1 s2 => wg_sa (wg_n Sm (wg_r Sm x0 40)) s2 (wg_r Sm x0 40) x1 v1 (fun s3 => wg_ga (wg_n Sm (wg_r Sm x0 40)) (s3 (wg_r Sm x0 40)) x1 (fun v4 => if v4 = (-1 : Int32) then (some ((-1 : Int32), s3)) else (wg_bd (f_X12_kindOfLoan x0 s3) (fun v5 s6 => if v5 = (-1 : Int32) then (wg_bd (f_X12_errs x0 (1 : Int32) s6) (fun v19 s20 => some (v19, s20))) else (wg_bd (f_X12_reads x0 s6) (fun _ s7 => wg_sa (wg_n Sm (wg_r Sm x0 40)) s7 (wg_r Sm x0 40) (x1 + (1 : Int32)) v5 (fun s8 => wg_bd (f_X12_readNumber x0 (0 : Int32) ((s8 x0 6) - (1 : Int32)) s8) (fun v9 s10 => wg_sa (wg_n Sm (wg_r Sm x0 40)) s10 (wg_r Sm x0 40) (x1 + (2 : Int32)) v9 (fun s11 => wg_ga (wg_n Sm (wg_r Sm x0 40)) (s11 (wg_r Sm x0 40)) (x1 + (2 : Int32)) (fun v12 => if v12 = (-1 : Int32) then (some ((-1 : Int32), s11)) else (wg_bd (f_X12_readLoanMore x0 v5 s11) (fun v13 s14 => wg_sa (wg_n Sm (wg_r Sm x0 40)) s14 (wg_r Sm x0 40) (x1 + (3 : Int32)) v13 (fun s15 => wg_ga (wg_n Sm (wg_r Sm x0 40)) (s15 (wg_r Sm x0 40)) (x1 + (3 : Int32)) (fun v16 => if v16 = (-1 : Int32) then (some ((-1 : Int32), s15)) else (wg_bd (f_X12_readMark x0 (59 : Int32) s15) (fun v17 s18 => some (v17, s18))))))))))))))))))
set_option maxRecDepth 20000 in
theorem g_X12_readLoan_e (l : Launch) (E : wg_E)  (x0 : Nat) (x1 : Int32) (σ : wg_M) (z : Int32 × wg_M) (hx0 : wg_t Sm x0 = 14) (h : f_X12_readLoan  x0 x1 σ = some z) : wg_G l E Sm "WornWigsModel" cX12_readLoan 3 (some .int) rm_X12_readLoan (some z.1) z.2 0 [some (.ref x0), some (.int x1), none] [] σ := by
  refine wr_aload_n (wg_da dt_X12_readLoan 0 rfl) rfl ?_
  refine wr_getR wf_X12_71 (wg_da dt_X12_readLoan 1 rfl) hx0 ?_
  refine wr_iload_n (wg_da dt_X12_readLoan 2 rfl) rfl ?_
  refine wr_aload_n (wg_da dt_X12_readLoan 3 rfl) rfl ?_
  refine wr_bipush (17 : Int32) (wg_da dt_X12_readLoan 4 rfl) (by decide) ?_
  refine wr_iconst (0 : Int32) (wg_da dt_X12_readLoan 5 rfl) (by decide) ?_
  refine wr_sipush (999 : Int32) (wg_da dt_X12_readLoan 6 rfl) (by decide) ?_
  refine wr_callVi [.int (17 : Int32), .int (0 : Int32), .int (999 : Int32)] [.int x1, .ref (wg_r Sm x0 40)] (wg_da dt_X12_readLoan 7 rfl) ⟨wq_7_198, wq_7_200, wq_p5_9⟩ hx0 ⟨rfl, by decide⟩ wy_X12_readTold (fun q hq => m_X12_readTold l E x0 (17 : Int32) (0 : Int32) (999 : Int32) hx0 _ q hq) rfl rfl (Nat.le_of_ble_eq_true rfl) ⟨rfl, rfl, by decide, by decide⟩ h (fun v1 s2 h => ?_)
  refine wr_iast (wg_da dt_X12_readLoan 8 rfl) (wg_ty Sm_ok 12 40 0 hx0 rfl (by decide)).2 h (fun s3 h => ?_)
  refine wr_aload_n (wg_da dt_X12_readLoan 9 rfl) rfl ?_
  refine wr_getR wf_X12_71 (wg_da dt_X12_readLoan 10 rfl) hx0 ?_
  refine wr_iload_n (wg_da dt_X12_readLoan 11 rfl) rfl ?_
  refine wr_iald (wg_da dt_X12_readLoan 12 rfl) (wg_ty Sm_ok 12 40 0 hx0 rfl (by decide)).2 h (fun v4 h => ?_)
  refine wr_iconst (-1 : Int32) (wg_da dt_X12_readLoan 13 rfl) (by decide) ?_
  refine wr_icmp_ne 28 (wg_da dt_X12_readLoan 14 rfl) (by decide) h (fun h => ?_) (fun h => ?_)
  · refine wr_iconst (-1 : Int32) (wg_da dt_X12_readLoan 15 rfl) (by decide) ?_
    exact wr_iret (wg_da dt_X12_readLoan 16 rfl) h
  · refine wr_aload_n (wg_da dt_X12_readLoan 17 rfl) rfl ?_
    refine wr_callVi [] [] (wg_da dt_X12_readLoan 18 rfl) ⟨wq_7_222, wq_7_224, wq_p5_15⟩ hx0 ⟨rfl, by decide⟩ wy_X12_kindOfLoan (fun q hq => m_X12_kindOfLoan l E x0 hx0 _ q hq) rfl rfl (Nat.le_of_ble_eq_true rfl) ⟨rfl, rfl, by decide, by decide⟩ h (fun v5 s6 h => ?_)
    refine wr_istore_n (wg_da dt_X12_readLoan 19 rfl) (by decide) ?_
    refine wr_iload_n (wg_da dt_X12_readLoan 20 rfl) rfl ?_
    refine wr_iconst (-1 : Int32) (wg_da dt_X12_readLoan 21 rfl) (by decide) ?_
    refine wr_icmp_ne 44 (wg_da dt_X12_readLoan 22 rfl) (by decide) h (fun h => ?_) (fun h => ?_)
    · refine wr_aload_n (wg_da dt_X12_readLoan 23 rfl) rfl ?_
      refine wr_iconst (1 : Int32) (wg_da dt_X12_readLoan 24 rfl) (by decide) ?_
      refine wr_callVi [.int (1 : Int32)] [] (wg_da dt_X12_readLoan 25 rfl) ⟨wq_7_190, wq_7_192, wq_p5_7⟩ hx0 ⟨rfl, by decide⟩ wy_X12_errs (fun q hq => m_X12_errs l E x0 (1 : Int32) hx0 _ q hq) rfl rfl (Nat.le_of_ble_eq_true rfl) ⟨rfl, rfl, by decide, by decide⟩ h (fun v19 s20 h => ?_)
      exact wr_iret (wg_da dt_X12_readLoan 26 rfl) h
    · refine wr_aload_n (wg_da dt_X12_readLoan 27 rfl) rfl ?_
      refine wr_callVv [] [] (wg_da dt_X12_readLoan 28 rfl) ⟨wq_7_158, wq_7_160, wq_p4_15⟩ hx0 ⟨rfl, by decide⟩ wy_X12_reads (fun q hq => m_X12_reads l E x0 hx0 _ q hq) rfl rfl (Nat.le_of_ble_eq_true rfl) ⟨rfl, rfl, by decide, by decide⟩ h (fun _ s7 h => ?_)
      refine wr_aload_n (wg_da dt_X12_readLoan 29 rfl) rfl ?_
      refine wr_getR wf_X12_71 (wg_da dt_X12_readLoan 30 rfl) hx0 ?_
      refine wr_iload_n (wg_da dt_X12_readLoan 31 rfl) rfl ?_
      refine wr_iconst (1 : Int32) (wg_da dt_X12_readLoan 32 rfl) (by decide) ?_
      refine wr_iadd (wg_da dt_X12_readLoan 33 rfl) ?_
      refine wr_iload_n (wg_da dt_X12_readLoan 34 rfl) rfl ?_
      refine wr_iast (wg_da dt_X12_readLoan 35 rfl) (wg_ty Sm_ok 12 40 0 hx0 rfl (by decide)).2 h (fun s8 h => ?_)
      refine wr_aload_n (wg_da dt_X12_readLoan 36 rfl) rfl ?_
      refine wr_getR wf_X12_71 (wg_da dt_X12_readLoan 37 rfl) hx0 ?_
      refine wr_iload_n (wg_da dt_X12_readLoan 38 rfl) rfl ?_
      refine wr_iconst (2 : Int32) (wg_da dt_X12_readLoan 39 rfl) (by decide) ?_
      refine wr_iadd (wg_da dt_X12_readLoan 40 rfl) ?_
      refine wr_aload_n (wg_da dt_X12_readLoan 41 rfl) rfl ?_
      refine wr_iconst (0 : Int32) (wg_da dt_X12_readLoan 42 rfl) (by decide) ?_
      refine wr_aload_n (wg_da dt_X12_readLoan 43 rfl) rfl ?_
      refine wr_getI wf_X12_125 (wg_da dt_X12_readLoan 44 rfl) hx0 ?_
      refine wr_iconst (1 : Int32) (wg_da dt_X12_readLoan 45 rfl) (by decide) ?_
      refine wr_isub (wg_da dt_X12_readLoan 46 rfl) ?_
      refine wr_callVi [.int (0 : Int32), .int ((s8 x0 6) - (1 : Int32))] [.int (x1 + (2 : Int32)), .ref (wg_r Sm x0 40)] (wg_da dt_X12_readLoan 47 rfl) ⟨wq_7_202, wq_7_204, wq_p5_10⟩ hx0 ⟨rfl, by decide⟩ wy_X12_readNumber (fun q hq => m_X12_readNumber l E x0 (0 : Int32) ((s8 x0 6) - (1 : Int32)) hx0 _ q hq) rfl rfl (Nat.le_of_ble_eq_true rfl) ⟨rfl, rfl, by decide, by decide⟩ h (fun v9 s10 h => ?_)
      refine wr_iast (wg_da dt_X12_readLoan 48 rfl) (wg_ty Sm_ok 12 40 0 hx0 rfl (by decide)).2 h (fun s11 h => ?_)
      refine wr_aload_n (wg_da dt_X12_readLoan 49 rfl) rfl ?_
      refine wr_getR wf_X12_71 (wg_da dt_X12_readLoan 50 rfl) hx0 ?_
      refine wr_iload_n (wg_da dt_X12_readLoan 51 rfl) rfl ?_
      refine wr_iconst (2 : Int32) (wg_da dt_X12_readLoan 52 rfl) (by decide) ?_
      refine wr_iadd (wg_da dt_X12_readLoan 53 rfl) ?_
      refine wr_iald (wg_da dt_X12_readLoan 54 rfl) (wg_ty Sm_ok 12 40 0 hx0 rfl (by decide)).2 h (fun v12 h => ?_)
      refine wr_iconst (-1 : Int32) (wg_da dt_X12_readLoan 55 rfl) (by decide) ?_
      refine wr_icmp_ne 90 (wg_da dt_X12_readLoan 56 rfl) (by decide) h (fun h => ?_) (fun h => ?_)
      · refine wr_iconst (-1 : Int32) (wg_da dt_X12_readLoan 57 rfl) (by decide) ?_
        exact wr_iret (wg_da dt_X12_readLoan 58 rfl) h
      · refine wr_aload_n (wg_da dt_X12_readLoan 59 rfl) rfl ?_
        refine wr_getR wf_X12_71 (wg_da dt_X12_readLoan 60 rfl) hx0 ?_
        refine wr_iload_n (wg_da dt_X12_readLoan 61 rfl) rfl ?_
        refine wr_iconst (3 : Int32) (wg_da dt_X12_readLoan 62 rfl) (by decide) ?_
        refine wr_iadd (wg_da dt_X12_readLoan 63 rfl) ?_
        refine wr_aload_n (wg_da dt_X12_readLoan 64 rfl) rfl ?_
        refine wr_iload_n (wg_da dt_X12_readLoan 65 rfl) rfl ?_
        refine wr_callVi [.int v5] [.int (x1 + (3 : Int32)), .ref (wg_r Sm x0 40)] (wg_da dt_X12_readLoan 66 rfl) ⟨wq_7_226, wq_7_228, wq_p6_0⟩ hx0 ⟨rfl, by decide⟩ wy_X12_readLoanMore (fun q hq => m_X12_readLoanMore l E x0 v5 hx0 _ q hq) rfl rfl (Nat.le_of_ble_eq_true rfl) ⟨rfl, rfl, by decide, by decide⟩ h (fun v13 s14 h => ?_)
        refine wr_iast (wg_da dt_X12_readLoan 67 rfl) (wg_ty Sm_ok 12 40 0 hx0 rfl (by decide)).2 h (fun s15 h => ?_)
        refine wr_aload_n (wg_da dt_X12_readLoan 68 rfl) rfl ?_
        refine wr_getR wf_X12_71 (wg_da dt_X12_readLoan 69 rfl) hx0 ?_
        refine wr_iload_n (wg_da dt_X12_readLoan 70 rfl) rfl ?_
        refine wr_iconst (3 : Int32) (wg_da dt_X12_readLoan 71 rfl) (by decide) ?_
        refine wr_iadd (wg_da dt_X12_readLoan 72 rfl) ?_
        refine wr_iald (wg_da dt_X12_readLoan 73 rfl) (wg_ty Sm_ok 12 40 0 hx0 rfl (by decide)).2 h (fun v16 h => ?_)
        refine wr_iconst (-1 : Int32) (wg_da dt_X12_readLoan 74 rfl) (by decide) ?_
        refine wr_icmp_ne 119 (wg_da dt_X12_readLoan 75 rfl) (by decide) h (fun h => ?_) (fun h => ?_)
        · refine wr_iconst (-1 : Int32) (wg_da dt_X12_readLoan 76 rfl) (by decide) ?_
          refine wr_goto 125 (wg_da dt_X12_readLoan 77 rfl) (by decide) ?_
          exact wr_iret (wg_da dt_X12_readLoan 81 rfl) h
        · refine wr_aload_n (wg_da dt_X12_readLoan 78 rfl) rfl ?_
          refine wr_bipush (59 : Int32) (wg_da dt_X12_readLoan 79 rfl) (by decide) ?_
          refine wr_callVi [.int (59 : Int32)] [] (wg_da dt_X12_readLoan 80 rfl) ⟨wq_7_206, wq_7_208, wq_p5_11⟩ hx0 ⟨rfl, by decide⟩ wy_X12_readMark (fun q hq => m_X12_readMark l E x0 (59 : Int32) hx0 _ q hq) rfl rfl (Nat.le_of_ble_eq_true rfl) ⟨rfl, rfl, by decide, by decide⟩ h (fun v17 s18 h => ?_)
          exact wr_iret (wg_da dt_X12_readLoan 81 rfl) h
theorem m_X12_readLoan (l : Launch) (E : wg_E) (x0 : Nat) (x1 : Int32) (hx0 : wg_t Sm x0 = 14) (σ : wg_M) (q : Int32 × wg_M) (h : f_X12_readLoan x0 x1 σ = some q) : wg_MG l E Sm yX12_readLoan cX12_readLoan 3 (some .int) rm_X12_readLoan [.ref x0, .int x1] σ (some q.1) q.2 :=
  wg_met [.ref x0, .int x1] (plainFor_of_name (by decide)) (Nat.le_of_ble_eq_true rfl) (g_X12_readLoan_e l E x0 x1 σ q hx0 h)
abbrev rm_X12_readLoans : Room := { frames := 7, cells := 0, slots := 0, locals := 154 }
def tb_X12_readLoans : List (Nat × Instr × Nat) := [(0, .iconst 0, 1), (1, .istore_n 1, 1), (2, .aload_n 0, 1), (3, .bipush 17, 2), (5, .invokevirtual 247, 3), (8, .ifCond .eq 38, 3), (11, .iload_n 1, 1), (12, .bipush 16, 2), (14, .if_icmp .ne 9, 3), (17, .aload_n 0, 1), (18, .iconst 3, 1), (19, .invokevirtual 218, 3), (22, .ireturn, 1), (23, .aload_n 0, 1), (24, .bipush 64, 2), (26, .iconst 4, 1), (27, .iload_n 1, 1), (28, .imul, 1), (29, .iadd, 1), (30, .invokevirtual 288, 3), (33, .iconst (-1), 1), (34, .if_icmp .ne 5, 3), (37, .iconst (-1), 1), (38, .ireturn, 1), (39, .iload_n 1, 1), (40, .iconst 1, 1), (41, .iadd, 1), (42, .istore_n 1, 1), (43, .goto (-41), 3), (46, .aload_n 0, 1), (47, .getfield 188, 3), (50, .ifCond .ne 7, 3), (53, .iload_n 1, 1), (54, .goto 8, 3), (57, .aload_n 0, 1), (58, .iconst 1, 1), (59, .invokevirtual 218, 3), (62, .ireturn, 1)]
theorem dt_X12_readLoans : wg_dc cX12_readLoans tb_X12_readLoans := by unfold wg_dc; decide +kernel
def f_X12_readLoans_2  : Nat → Nat → Int32 → wg_M → Option (Int32 × wg_M)
  | 0, _, _, _ => none
  | n + 1, x0, x1, σ => wg_bd (f_X12_isWord x0 (17 : Int32) σ) (fun v1 s2 => if v1 = 0 then (if (s2 x0 18) = 0 then (some (x1, s2)) else (wg_bd (f_X12_errs x0 (1 : Int32) s2) (fun v3 s4 => some (v3, s4)))) else (if x1 = (16 : Int32) then (wg_bd (f_X12_errs x0 (3 : Int32) s2) (fun v8 s9 => some (v8, s9))) else (wg_bd (f_X12_readLoan x0 ((64 : Int32) + ((4 : Int32) * x1)) s2) (fun v5 s6 => if v5 = (-1 : Int32) then (some ((-1 : Int32), s6)) else (wg_let (x1 + (1 : Int32)) (fun v7 => f_X12_readLoans_2  n x0 v7 s6))))))
def f_X12_readLoans  (x0 : Nat) (σ : wg_M) : Option (Int32 × wg_M) := f_X12_readLoans_2  wg_N x0 (0 : Int32) σ
set_option maxRecDepth 20000 in
theorem g_X12_readLoans_2 (l : Launch) (E : wg_E)  (z : Int32 × wg_M) : ∀ (n : Nat) (x0 : Nat) (x1 : Int32) (σ : wg_M) (hx0 : wg_t Sm x0 = 14) (h : f_X12_readLoans_2  n x0 x1 σ = some z), wg_G l E Sm "WornWigsModel" cX12_readLoans 2 (some .int) rm_X12_readLoans (some z.1) z.2 2 [some (.ref x0), some (.int x1)] [] σ := by
  intro n
  induction n with
  | zero => intro x0 x1 σ hx0 h; cases h
  | succ n ih =>
    intro x0 x1 σ hx0 h
    refine wr_aload_n (wg_da dt_X12_readLoans 2 rfl) rfl ?_
    refine wr_bipush (17 : Int32) (wg_da dt_X12_readLoans 3 rfl) (by decide) ?_
    refine wr_callVi [.int (17 : Int32)] [] (wg_da dt_X12_readLoans 4 rfl) ⟨wq_7_186, wq_7_188, wq_p5_6⟩ hx0 ⟨rfl, by decide⟩ wy_X12_isWord (fun q hq => m_X12_isWord l E x0 (17 : Int32) hx0 _ q hq) rfl rfl (Nat.le_of_ble_eq_true rfl) ⟨rfl, rfl, by decide, by decide⟩ h (fun v1 s2 h => ?_)
    refine wr_if_eq 46 (wg_da dt_X12_readLoans 5 rfl) (by decide) h (fun h => ?_) (fun h => ?_)
    · refine wr_aload_n (wg_da dt_X12_readLoans 29 rfl) rfl ?_
      refine wr_getI wf_X12_188 (wg_da dt_X12_readLoans 30 rfl) hx0 ?_
      refine wr_if_ne 57 (wg_da dt_X12_readLoans 31 rfl) (by decide) h (fun h => ?_) (fun h => ?_)
      · refine wr_iload_n (wg_da dt_X12_readLoans 32 rfl) rfl ?_
        refine wr_goto 62 (wg_da dt_X12_readLoans 33 rfl) (by decide) ?_
        exact wr_iret (wg_da dt_X12_readLoans 37 rfl) h
      · refine wr_aload_n (wg_da dt_X12_readLoans 34 rfl) rfl ?_
        refine wr_iconst (1 : Int32) (wg_da dt_X12_readLoans 35 rfl) (by decide) ?_
        refine wr_callVi [.int (1 : Int32)] [] (wg_da dt_X12_readLoans 36 rfl) ⟨wq_7_190, wq_7_192, wq_p5_7⟩ hx0 ⟨rfl, by decide⟩ wy_X12_errs (fun q hq => m_X12_errs l E x0 (1 : Int32) hx0 _ q hq) rfl rfl (Nat.le_of_ble_eq_true rfl) ⟨rfl, rfl, by decide, by decide⟩ h (fun v3 s4 h => ?_)
        exact wr_iret (wg_da dt_X12_readLoans 37 rfl) h
    · refine wr_iload_n (wg_da dt_X12_readLoans 6 rfl) rfl ?_
      refine wr_bipush (16 : Int32) (wg_da dt_X12_readLoans 7 rfl) (by decide) ?_
      refine wr_icmp_ne 23 (wg_da dt_X12_readLoans 8 rfl) (by decide) h (fun h => ?_) (fun h => ?_)
      · refine wr_aload_n (wg_da dt_X12_readLoans 9 rfl) rfl ?_
        refine wr_iconst (3 : Int32) (wg_da dt_X12_readLoans 10 rfl) (by decide) ?_
        refine wr_callVi [.int (3 : Int32)] [] (wg_da dt_X12_readLoans 11 rfl) ⟨wq_7_190, wq_7_192, wq_p5_7⟩ hx0 ⟨rfl, by decide⟩ wy_X12_errs (fun q hq => m_X12_errs l E x0 (3 : Int32) hx0 _ q hq) rfl rfl (Nat.le_of_ble_eq_true rfl) ⟨rfl, rfl, by decide, by decide⟩ h (fun v8 s9 h => ?_)
        exact wr_iret (wg_da dt_X12_readLoans 12 rfl) h
      · refine wr_aload_n (wg_da dt_X12_readLoans 13 rfl) rfl ?_
        refine wr_bipush (64 : Int32) (wg_da dt_X12_readLoans 14 rfl) (by decide) ?_
        refine wr_iconst (4 : Int32) (wg_da dt_X12_readLoans 15 rfl) (by decide) ?_
        refine wr_iload_n (wg_da dt_X12_readLoans 16 rfl) rfl ?_
        refine wr_imul (wg_da dt_X12_readLoans 17 rfl) ?_
        refine wr_iadd (wg_da dt_X12_readLoans 18 rfl) ?_
        refine wr_callVi [.int ((64 : Int32) + ((4 : Int32) * x1))] [] (wg_da dt_X12_readLoans 19 rfl) ⟨wq_7_218, wq_7_220, wq_p5_14⟩ hx0 ⟨rfl, by decide⟩ wy_X12_readLoan (fun q hq => m_X12_readLoan l E x0 ((64 : Int32) + ((4 : Int32) * x1)) hx0 _ q hq) rfl rfl (Nat.le_of_ble_eq_true rfl) ⟨rfl, rfl, by decide, by decide⟩ h (fun v5 s6 h => ?_)
        refine wr_iconst (-1 : Int32) (wg_da dt_X12_readLoans 20 rfl) (by decide) ?_
        refine wr_icmp_ne 39 (wg_da dt_X12_readLoans 21 rfl) (by decide) h (fun h => ?_) (fun h => ?_)
        · refine wr_iconst (-1 : Int32) (wg_da dt_X12_readLoans 22 rfl) (by decide) ?_
          exact wr_iret (wg_da dt_X12_readLoans 23 rfl) h
        · refine wr_iload_n (wg_da dt_X12_readLoans 24 rfl) rfl ?_
          refine wr_iconst (1 : Int32) (wg_da dt_X12_readLoans 25 rfl) (by decide) ?_
          refine wr_iadd (wg_da dt_X12_readLoans 26 rfl) ?_
          refine wr_let h (fun v7 h => ?_)
          refine wr_istore_n (wg_da dt_X12_readLoans 27 rfl) (by decide) ?_
          refine wr_goto 2 (wg_da dt_X12_readLoans 28 rfl) (by decide) ?_
          exact wr_wk [true, true] (ih x0 v7 s6 hx0 h)
set_option maxRecDepth 20000 in
theorem g_X12_readLoans_e (l : Launch) (E : wg_E)  (x0 : Nat) (σ : wg_M) (z : Int32 × wg_M) (hx0 : wg_t Sm x0 = 14) (h : f_X12_readLoans  x0 σ = some z) : wg_G l E Sm "WornWigsModel" cX12_readLoans 2 (some .int) rm_X12_readLoans (some z.1) z.2 0 [some (.ref x0), none] [] σ := by
  refine wr_iconst (0 : Int32) (wg_da dt_X12_readLoans 0 rfl) (by decide) ?_
  refine wr_istore_n (wg_da dt_X12_readLoans 1 rfl) (by decide) ?_
  exact wr_wk [true, true] (g_X12_readLoans_2 l E  _  wg_N x0 (0 : Int32) σ hx0 h)
theorem m_X12_readLoans (l : Launch) (E : wg_E) (x0 : Nat) (hx0 : wg_t Sm x0 = 14) (σ : wg_M) (q : Int32 × wg_M) (h : f_X12_readLoans x0 σ = some q) : wg_MG l E Sm yX12_readLoans cX12_readLoans 2 (some .int) rm_X12_readLoans [.ref x0] σ (some q.1) q.2 :=
  wg_met [.ref x0] (plainFor_of_name (by decide)) (Nat.le_of_ble_eq_true rfl) (g_X12_readLoans_e l E x0 σ q hx0 h)
abbrev rm_X12_readKinLine : Room := { frames := 5, cells := 0, slots := 0, locals := 111 }
def tb_X12_readKinLine : List (Nat × Instr × Nat) := [(0, .aload_n 0, 1), (1, .bipush 20, 2), (3, .iconst 0, 1), (4, .aload_n 0, 1), (5, .getfield 125, 3), (8, .iconst 1, 1), (9, .isub, 1), (10, .invokevirtual 272, 3), (13, .istore_n 1, 1), (14, .iload_n 1, 1), (15, .iconst (-1), 1), (16, .if_icmp .ne 5, 3), (19, .iconst (-1), 1), (20, .ireturn, 1), (21, .aload_n 0, 1), (22, .bipush 25, 2), (24, .invokevirtual 247, 3), (27, .ifCond .ne 9, 3), (30, .aload_n 0, 1), (31, .iconst 1, 1), (32, .invokevirtual 218, 3), (35, .ireturn, 1), (36, .aload_n 0, 1), (37, .invokevirtual 225, 3), (40, .aload_n 0, 1), (41, .getfield 188, 3), (44, .iconst 3, 1), (45, .if_icmp .ne 17, 3), (48, .aload_n 0, 1), (49, .getfield 191, 3), (52, .iload_n 1, 1), (53, .if_icmp .ne 9, 3), (56, .aload_n 0, 1), (57, .iconst 2, 1), (58, .invokevirtual 218, 3), (61, .ireturn, 1), (62, .aload_n 0, 1), (63, .iconst 0, 1), (64, .aload_n 0, 1), (65, .getfield 125, 3), (68, .iconst 1, 1), (69, .isub, 1), (70, .invokevirtual 269, 3), (73, .istore_n 2, 1), (74, .iload_n 2, 1), (75, .iconst (-1), 1), (76, .if_icmp .ne 5, 3), (79, .iconst (-1), 1), (80, .ireturn, 1), (81, .aload_n 0, 1), (82, .getfield 74, 3), (85, .bipush 8, 2), (87, .iload_n 1, 1), (88, .iadd, 1), (89, .iaload, 1), (90, .ifCond .ne 15, 3), (93, .aload_n 0, 1), (94, .getfield 74, 3), (97, .bipush 8, 2), (99, .iload_n 1, 1), (100, .iadd, 1), (101, .iload_n 2, 1), (102, .iconst 1, 1), (103, .iadd, 1), (104, .iastore, 1), (105, .aload_n 0, 1), (106, .bipush 59, 2), (108, .invokevirtual 276, 3), (111, .ireturn, 1)]
theorem dt_X12_readKinLine : wg_dc cX12_readKinLine tb_X12_readKinLine := by unfold wg_dc; decide +kernel
def f_X12_readKinLine_105  (x0 : Nat) (σ : wg_M) : Option (Int32 × wg_M) := wg_bd (f_X12_readMark x0 (59 : Int32) σ) (fun v1 s2 => some (v1, s2))
def f_X12_readKinLine_62  (x0 : Nat) (x1 : Int32) (σ : wg_M) : Option (Int32 × wg_M) := wg_bd (f_X12_readNumber x0 (0 : Int32) ((σ x0 6) - (1 : Int32)) σ) (fun v1 s2 => if v1 = (-1 : Int32) then (some ((-1 : Int32), s2)) else (wg_ga (wg_n Sm (wg_r Sm x0 42)) (s2 (wg_r Sm x0 42)) ((8 : Int32) + x1) (fun v3 => if v3 = 0 then (wg_sa (wg_n Sm (wg_r Sm x0 42)) s2 (wg_r Sm x0 42) ((8 : Int32) + x1) (v1 + (1 : Int32)) (fun s4 => f_X12_readKinLine_105  x0 s4)) else (f_X12_readKinLine_105  x0 s2))))
def f_X12_readKinLine  (x0 : Nat) (σ : wg_M) : Option (Int32 × wg_M) := wg_bd (f_X12_readTold x0 (20 : Int32) (0 : Int32) ((σ x0 6) - (1 : Int32)) σ) (fun v1 s2 => if v1 = (-1 : Int32) then (some ((-1 : Int32), s2)) else (wg_bd (f_X12_isWord x0 (25 : Int32) s2) (fun v3 s4 => if v3 = 0 then (wg_bd (f_X12_errs x0 (1 : Int32) s4) (fun v8 s9 => some (v8, s9))) else (wg_bd (f_X12_reads x0 s4) (fun _ s5 => if (s5 x0 18) = (3 : Int32) then (if (s5 x0 19) = v1 then (wg_bd (f_X12_errs x0 (2 : Int32) s5) (fun v6 s7 => some (v6, s7))) else (f_X12_readKinLine_62  x0 v1 s5)) else (f_X12_readKinLine_62  x0 v1 s5))))))
set_option maxRecDepth 20000 in
theorem g_X12_readKinLine_105 (l : Launch) (E : wg_E)  (x0 : Nat) (σ : wg_M) (z : Int32 × wg_M) (hx0 : wg_t Sm x0 = 14) (h : f_X12_readKinLine_105  x0 σ = some z) : wg_G l E Sm "WornWigsModel" cX12_readKinLine 3 (some .int) rm_X12_readKinLine (some z.1) z.2 105 [some (.ref x0), none, none] [] σ := by
  refine wr_aload_n (wg_da dt_X12_readKinLine 65 rfl) rfl ?_
  refine wr_bipush (59 : Int32) (wg_da dt_X12_readKinLine 66 rfl) (by decide) ?_
  refine wr_callVi [.int (59 : Int32)] [] (wg_da dt_X12_readKinLine 67 rfl) ⟨wq_7_206, wq_7_208, wq_p5_11⟩ hx0 ⟨rfl, by decide⟩ wy_X12_readMark (fun q hq => m_X12_readMark l E x0 (59 : Int32) hx0 _ q hq) rfl rfl (Nat.le_of_ble_eq_true rfl) ⟨rfl, rfl, by decide, by decide⟩ h (fun v1 s2 h => ?_)
  exact wr_iret (wg_da dt_X12_readKinLine 68 rfl) h
set_option maxRecDepth 20000 in
theorem g_X12_readKinLine_62 (l : Launch) (E : wg_E)  (x0 : Nat) (x1 : Int32) (σ : wg_M) (z : Int32 × wg_M) (hx0 : wg_t Sm x0 = 14) (h : f_X12_readKinLine_62  x0 x1 σ = some z) : wg_G l E Sm "WornWigsModel" cX12_readKinLine 3 (some .int) rm_X12_readKinLine (some z.1) z.2 62 [some (.ref x0), some (.int x1), none] [] σ := by
  refine wr_aload_n (wg_da dt_X12_readKinLine 36 rfl) rfl ?_
  refine wr_iconst (0 : Int32) (wg_da dt_X12_readKinLine 37 rfl) (by decide) ?_
  refine wr_aload_n (wg_da dt_X12_readKinLine 38 rfl) rfl ?_
  refine wr_getI wf_X12_125 (wg_da dt_X12_readKinLine 39 rfl) hx0 ?_
  refine wr_iconst (1 : Int32) (wg_da dt_X12_readKinLine 40 rfl) (by decide) ?_
  refine wr_isub (wg_da dt_X12_readKinLine 41 rfl) ?_
  refine wr_callVi [.int (0 : Int32), .int ((σ x0 6) - (1 : Int32))] [] (wg_da dt_X12_readKinLine 42 rfl) ⟨wq_7_202, wq_7_204, wq_p5_10⟩ hx0 ⟨rfl, by decide⟩ wy_X12_readNumber (fun q hq => m_X12_readNumber l E x0 (0 : Int32) ((σ x0 6) - (1 : Int32)) hx0 _ q hq) rfl rfl (Nat.le_of_ble_eq_true rfl) ⟨rfl, rfl, by decide, by decide⟩ h (fun v1 s2 h => ?_)
  refine wr_istore_n (wg_da dt_X12_readKinLine 43 rfl) (by decide) ?_
  refine wr_iload_n (wg_da dt_X12_readKinLine 44 rfl) rfl ?_
  refine wr_iconst (-1 : Int32) (wg_da dt_X12_readKinLine 45 rfl) (by decide) ?_
  refine wr_icmp_ne 81 (wg_da dt_X12_readKinLine 46 rfl) (by decide) h (fun h => ?_) (fun h => ?_)
  · refine wr_iconst (-1 : Int32) (wg_da dt_X12_readKinLine 47 rfl) (by decide) ?_
    exact wr_iret (wg_da dt_X12_readKinLine 48 rfl) h
  · refine wr_aload_n (wg_da dt_X12_readKinLine 49 rfl) rfl ?_
    refine wr_getR wf_X12_74 (wg_da dt_X12_readKinLine 50 rfl) hx0 ?_
    refine wr_bipush (8 : Int32) (wg_da dt_X12_readKinLine 51 rfl) (by decide) ?_
    refine wr_iload_n (wg_da dt_X12_readKinLine 52 rfl) rfl ?_
    refine wr_iadd (wg_da dt_X12_readKinLine 53 rfl) ?_
    refine wr_iald (wg_da dt_X12_readKinLine 54 rfl) (wg_ty Sm_ok 12 42 0 hx0 rfl (by decide)).2 h (fun v3 h => ?_)
    refine wr_if_ne 105 (wg_da dt_X12_readKinLine 55 rfl) (by decide) h (fun h => ?_) (fun h => ?_)
    · refine wr_aload_n (wg_da dt_X12_readKinLine 56 rfl) rfl ?_
      refine wr_getR wf_X12_74 (wg_da dt_X12_readKinLine 57 rfl) hx0 ?_
      refine wr_bipush (8 : Int32) (wg_da dt_X12_readKinLine 58 rfl) (by decide) ?_
      refine wr_iload_n (wg_da dt_X12_readKinLine 59 rfl) rfl ?_
      refine wr_iadd (wg_da dt_X12_readKinLine 60 rfl) ?_
      refine wr_iload_n (wg_da dt_X12_readKinLine 61 rfl) rfl ?_
      refine wr_iconst (1 : Int32) (wg_da dt_X12_readKinLine 62 rfl) (by decide) ?_
      refine wr_iadd (wg_da dt_X12_readKinLine 63 rfl) ?_
      refine wr_iast (wg_da dt_X12_readKinLine 64 rfl) (wg_ty Sm_ok 12 42 0 hx0 rfl (by decide)).2 h (fun s4 h => ?_)
      exact wr_wk [true, false, false] (g_X12_readKinLine_105 l E  x0 s4 _ hx0  h)
    · exact wr_wk [true, false, false] (g_X12_readKinLine_105 l E  x0 s2 _ hx0  h)
set_option maxRecDepth 20000 in
theorem g_X12_readKinLine_e (l : Launch) (E : wg_E)  (x0 : Nat) (σ : wg_M) (z : Int32 × wg_M) (hx0 : wg_t Sm x0 = 14) (h : f_X12_readKinLine  x0 σ = some z) : wg_G l E Sm "WornWigsModel" cX12_readKinLine 3 (some .int) rm_X12_readKinLine (some z.1) z.2 0 [some (.ref x0), none, none] [] σ := by
  refine wr_aload_n (wg_da dt_X12_readKinLine 0 rfl) rfl ?_
  refine wr_bipush (20 : Int32) (wg_da dt_X12_readKinLine 1 rfl) (by decide) ?_
  refine wr_iconst (0 : Int32) (wg_da dt_X12_readKinLine 2 rfl) (by decide) ?_
  refine wr_aload_n (wg_da dt_X12_readKinLine 3 rfl) rfl ?_
  refine wr_getI wf_X12_125 (wg_da dt_X12_readKinLine 4 rfl) hx0 ?_
  refine wr_iconst (1 : Int32) (wg_da dt_X12_readKinLine 5 rfl) (by decide) ?_
  refine wr_isub (wg_da dt_X12_readKinLine 6 rfl) ?_
  refine wr_callVi [.int (20 : Int32), .int (0 : Int32), .int ((σ x0 6) - (1 : Int32))] [] (wg_da dt_X12_readKinLine 7 rfl) ⟨wq_7_198, wq_7_200, wq_p5_9⟩ hx0 ⟨rfl, by decide⟩ wy_X12_readTold (fun q hq => m_X12_readTold l E x0 (20 : Int32) (0 : Int32) ((σ x0 6) - (1 : Int32)) hx0 _ q hq) rfl rfl (Nat.le_of_ble_eq_true rfl) ⟨rfl, rfl, by decide, by decide⟩ h (fun v1 s2 h => ?_)
  refine wr_istore_n (wg_da dt_X12_readKinLine 8 rfl) (by decide) ?_
  refine wr_iload_n (wg_da dt_X12_readKinLine 9 rfl) rfl ?_
  refine wr_iconst (-1 : Int32) (wg_da dt_X12_readKinLine 10 rfl) (by decide) ?_
  refine wr_icmp_ne 21 (wg_da dt_X12_readKinLine 11 rfl) (by decide) h (fun h => ?_) (fun h => ?_)
  · refine wr_iconst (-1 : Int32) (wg_da dt_X12_readKinLine 12 rfl) (by decide) ?_
    exact wr_iret (wg_da dt_X12_readKinLine 13 rfl) h
  · refine wr_aload_n (wg_da dt_X12_readKinLine 14 rfl) rfl ?_
    refine wr_bipush (25 : Int32) (wg_da dt_X12_readKinLine 15 rfl) (by decide) ?_
    refine wr_callVi [.int (25 : Int32)] [] (wg_da dt_X12_readKinLine 16 rfl) ⟨wq_7_186, wq_7_188, wq_p5_6⟩ hx0 ⟨rfl, by decide⟩ wy_X12_isWord (fun q hq => m_X12_isWord l E x0 (25 : Int32) hx0 _ q hq) rfl rfl (Nat.le_of_ble_eq_true rfl) ⟨rfl, rfl, by decide, by decide⟩ h (fun v3 s4 h => ?_)
    refine wr_if_ne 36 (wg_da dt_X12_readKinLine 17 rfl) (by decide) h (fun h => ?_) (fun h => ?_)
    · refine wr_aload_n (wg_da dt_X12_readKinLine 18 rfl) rfl ?_
      refine wr_iconst (1 : Int32) (wg_da dt_X12_readKinLine 19 rfl) (by decide) ?_
      refine wr_callVi [.int (1 : Int32)] [] (wg_da dt_X12_readKinLine 20 rfl) ⟨wq_7_190, wq_7_192, wq_p5_7⟩ hx0 ⟨rfl, by decide⟩ wy_X12_errs (fun q hq => m_X12_errs l E x0 (1 : Int32) hx0 _ q hq) rfl rfl (Nat.le_of_ble_eq_true rfl) ⟨rfl, rfl, by decide, by decide⟩ h (fun v8 s9 h => ?_)
      exact wr_iret (wg_da dt_X12_readKinLine 21 rfl) h
    · refine wr_aload_n (wg_da dt_X12_readKinLine 22 rfl) rfl ?_
      refine wr_callVv [] [] (wg_da dt_X12_readKinLine 23 rfl) ⟨wq_7_158, wq_7_160, wq_p4_15⟩ hx0 ⟨rfl, by decide⟩ wy_X12_reads (fun q hq => m_X12_reads l E x0 hx0 _ q hq) rfl rfl (Nat.le_of_ble_eq_true rfl) ⟨rfl, rfl, by decide, by decide⟩ h (fun _ s5 h => ?_)
      refine wr_aload_n (wg_da dt_X12_readKinLine 24 rfl) rfl ?_
      refine wr_getI wf_X12_188 (wg_da dt_X12_readKinLine 25 rfl) hx0 ?_
      refine wr_iconst (3 : Int32) (wg_da dt_X12_readKinLine 26 rfl) (by decide) ?_
      refine wr_icmp_ne 62 (wg_da dt_X12_readKinLine 27 rfl) (by decide) h (fun h => ?_) (fun h => ?_)
      · refine wr_aload_n (wg_da dt_X12_readKinLine 28 rfl) rfl ?_
        refine wr_getI wf_X12_191 (wg_da dt_X12_readKinLine 29 rfl) hx0 ?_
        refine wr_iload_n (wg_da dt_X12_readKinLine 30 rfl) rfl ?_
        refine wr_icmp_ne 62 (wg_da dt_X12_readKinLine 31 rfl) (by decide) h (fun h => ?_) (fun h => ?_)
        · refine wr_aload_n (wg_da dt_X12_readKinLine 32 rfl) rfl ?_
          refine wr_iconst (2 : Int32) (wg_da dt_X12_readKinLine 33 rfl) (by decide) ?_
          refine wr_callVi [.int (2 : Int32)] [] (wg_da dt_X12_readKinLine 34 rfl) ⟨wq_7_190, wq_7_192, wq_p5_7⟩ hx0 ⟨rfl, by decide⟩ wy_X12_errs (fun q hq => m_X12_errs l E x0 (2 : Int32) hx0 _ q hq) rfl rfl (Nat.le_of_ble_eq_true rfl) ⟨rfl, rfl, by decide, by decide⟩ h (fun v6 s7 h => ?_)
          exact wr_iret (wg_da dt_X12_readKinLine 35 rfl) h
        · exact wr_wk [true, true, false] (g_X12_readKinLine_62 l E  x0 v1 s5 _ hx0  h)
      · exact wr_wk [true, true, false] (g_X12_readKinLine_62 l E  x0 v1 s5 _ hx0  h)
theorem m_X12_readKinLine (l : Launch) (E : wg_E) (x0 : Nat) (hx0 : wg_t Sm x0 = 14) (σ : wg_M) (q : Int32 × wg_M) (h : f_X12_readKinLine x0 σ = some q) : wg_MG l E Sm yX12_readKinLine cX12_readKinLine 3 (some .int) rm_X12_readKinLine [.ref x0] σ (some q.1) q.2 :=
  wg_met [.ref x0] (plainFor_of_name (by decide)) (Nat.le_of_ble_eq_true rfl) (g_X12_readKinLine_e l E x0 σ q hx0 h)
abbrev rm_X12_readKin : Room := { frames := 6, cells := 0, slots := 0, locals := 133 }
def tb_X12_readKin : List (Nat × Instr × Nat) := [(0, .iconst 0, 1), (1, .istore_n 1, 1), (2, .iload_n 1, 1), (3, .bipush 8, 2), (5, .if_icmp .ge 19, 3), (8, .aload_n 0, 1), (9, .getfield 74, 3), (12, .bipush 8, 2), (14, .iload_n 1, 1), (15, .iadd, 1), (16, .iconst 0, 1), (17, .iastore, 1), (18, .iinc 1 1, 3), (21, .goto (-19), 3), (24, .iconst 0, 1), (25, .istore_n 1, 1), (26, .aload_n 0, 1), (27, .bipush 20, 2), (29, .invokevirtual 247, 3), (32, .ifCond .eq 32, 3), (35, .iload_n 1, 1), (36, .bipush 16, 2), (38, .if_icmp .ne 9, 3), (41, .aload_n 0, 1), (42, .iconst 3, 1), (43, .invokevirtual 218, 3), (46, .ireturn, 1), (47, .aload_n 0, 1), (48, .invokevirtual 291, 3), (51, .iconst (-1), 1), (52, .if_icmp .ne 5, 3), (55, .iconst (-1), 1), (56, .ireturn, 1), (57, .iload_n 1, 1), (58, .iconst 1, 1), (59, .iadd, 1), (60, .istore_n 1, 1), (61, .goto (-35), 3), (64, .aload_n 0, 1), (65, .getfield 188, 3), (68, .ifCond .ne 7, 3), (71, .iload_n 1, 1), (72, .goto 8, 3), (75, .aload_n 0, 1), (76, .iconst 1, 1), (77, .invokevirtual 218, 3), (80, .ireturn, 1)]
theorem dt_X12_readKin : wg_dc cX12_readKin tb_X12_readKin := by unfold wg_dc; decide +kernel
def f_X12_readKin_26  : Nat → Nat → Int32 → wg_M → Option (Int32 × wg_M)
  | 0, _, _, _ => none
  | n + 1, x0, x1, σ => wg_bd (f_X12_isWord x0 (20 : Int32) σ) (fun v1 s2 => if v1 = 0 then (if (s2 x0 18) = 0 then (some (x1, s2)) else (wg_bd (f_X12_errs x0 (1 : Int32) s2) (fun v3 s4 => some (v3, s4)))) else (if x1 = (16 : Int32) then (wg_bd (f_X12_errs x0 (3 : Int32) s2) (fun v8 s9 => some (v8, s9))) else (wg_bd (f_X12_readKinLine x0 s2) (fun v5 s6 => if v5 = (-1 : Int32) then (some ((-1 : Int32), s6)) else (wg_let (x1 + (1 : Int32)) (fun v7 => f_X12_readKin_26  n x0 v7 s6))))))
def f_X12_readKin_2  : Nat → Nat → Int32 → wg_M → Option (Int32 × wg_M)
  | 0, _, _, _ => none
  | n + 1, x0, x1, σ => if (8 : Int32) ≤ x1 then (f_X12_readKin_26  wg_N x0 (0 : Int32) σ) else (wg_sa (wg_n Sm (wg_r Sm x0 42)) σ (wg_r Sm x0 42) ((8 : Int32) + x1) (0 : Int32) (fun s1 => wg_let (x1 + (1 : Int32)) (fun v2 => f_X12_readKin_2  n x0 v2 s1)))
def f_X12_readKin  (x0 : Nat) (σ : wg_M) : Option (Int32 × wg_M) := f_X12_readKin_2  wg_N x0 (0 : Int32) σ
set_option maxRecDepth 20000 in
theorem g_X12_readKin_26 (l : Launch) (E : wg_E)  (z : Int32 × wg_M) : ∀ (n : Nat) (x0 : Nat) (x1 : Int32) (σ : wg_M) (hx0 : wg_t Sm x0 = 14) (h : f_X12_readKin_26  n x0 x1 σ = some z), wg_G l E Sm "WornWigsModel" cX12_readKin 2 (some .int) rm_X12_readKin (some z.1) z.2 26 [some (.ref x0), some (.int x1)] [] σ := by
  intro n
  induction n with
  | zero => intro x0 x1 σ hx0 h; cases h
  | succ n ih =>
    intro x0 x1 σ hx0 h
    refine wr_aload_n (wg_da dt_X12_readKin 16 rfl) rfl ?_
    refine wr_bipush (20 : Int32) (wg_da dt_X12_readKin 17 rfl) (by decide) ?_
    refine wr_callVi [.int (20 : Int32)] [] (wg_da dt_X12_readKin 18 rfl) ⟨wq_7_186, wq_7_188, wq_p5_6⟩ hx0 ⟨rfl, by decide⟩ wy_X12_isWord (fun q hq => m_X12_isWord l E x0 (20 : Int32) hx0 _ q hq) rfl rfl (Nat.le_of_ble_eq_true rfl) ⟨rfl, rfl, by decide, by decide⟩ h (fun v1 s2 h => ?_)
    refine wr_if_eq 64 (wg_da dt_X12_readKin 19 rfl) (by decide) h (fun h => ?_) (fun h => ?_)
    · refine wr_aload_n (wg_da dt_X12_readKin 38 rfl) rfl ?_
      refine wr_getI wf_X12_188 (wg_da dt_X12_readKin 39 rfl) hx0 ?_
      refine wr_if_ne 75 (wg_da dt_X12_readKin 40 rfl) (by decide) h (fun h => ?_) (fun h => ?_)
      · refine wr_iload_n (wg_da dt_X12_readKin 41 rfl) rfl ?_
        refine wr_goto 80 (wg_da dt_X12_readKin 42 rfl) (by decide) ?_
        exact wr_iret (wg_da dt_X12_readKin 46 rfl) h
      · refine wr_aload_n (wg_da dt_X12_readKin 43 rfl) rfl ?_
        refine wr_iconst (1 : Int32) (wg_da dt_X12_readKin 44 rfl) (by decide) ?_
        refine wr_callVi [.int (1 : Int32)] [] (wg_da dt_X12_readKin 45 rfl) ⟨wq_7_190, wq_7_192, wq_p5_7⟩ hx0 ⟨rfl, by decide⟩ wy_X12_errs (fun q hq => m_X12_errs l E x0 (1 : Int32) hx0 _ q hq) rfl rfl (Nat.le_of_ble_eq_true rfl) ⟨rfl, rfl, by decide, by decide⟩ h (fun v3 s4 h => ?_)
        exact wr_iret (wg_da dt_X12_readKin 46 rfl) h
    · refine wr_iload_n (wg_da dt_X12_readKin 20 rfl) rfl ?_
      refine wr_bipush (16 : Int32) (wg_da dt_X12_readKin 21 rfl) (by decide) ?_
      refine wr_icmp_ne 47 (wg_da dt_X12_readKin 22 rfl) (by decide) h (fun h => ?_) (fun h => ?_)
      · refine wr_aload_n (wg_da dt_X12_readKin 23 rfl) rfl ?_
        refine wr_iconst (3 : Int32) (wg_da dt_X12_readKin 24 rfl) (by decide) ?_
        refine wr_callVi [.int (3 : Int32)] [] (wg_da dt_X12_readKin 25 rfl) ⟨wq_7_190, wq_7_192, wq_p5_7⟩ hx0 ⟨rfl, by decide⟩ wy_X12_errs (fun q hq => m_X12_errs l E x0 (3 : Int32) hx0 _ q hq) rfl rfl (Nat.le_of_ble_eq_true rfl) ⟨rfl, rfl, by decide, by decide⟩ h (fun v8 s9 h => ?_)
        exact wr_iret (wg_da dt_X12_readKin 26 rfl) h
      · refine wr_aload_n (wg_da dt_X12_readKin 27 rfl) rfl ?_
        refine wr_callVi [] [] (wg_da dt_X12_readKin 28 rfl) ⟨wq_7_234, wq_7_236, wq_p6_2⟩ hx0 ⟨rfl, by decide⟩ wy_X12_readKinLine (fun q hq => m_X12_readKinLine l E x0 hx0 _ q hq) rfl rfl (Nat.le_of_ble_eq_true rfl) ⟨rfl, rfl, by decide, by decide⟩ h (fun v5 s6 h => ?_)
        refine wr_iconst (-1 : Int32) (wg_da dt_X12_readKin 29 rfl) (by decide) ?_
        refine wr_icmp_ne 57 (wg_da dt_X12_readKin 30 rfl) (by decide) h (fun h => ?_) (fun h => ?_)
        · refine wr_iconst (-1 : Int32) (wg_da dt_X12_readKin 31 rfl) (by decide) ?_
          exact wr_iret (wg_da dt_X12_readKin 32 rfl) h
        · refine wr_iload_n (wg_da dt_X12_readKin 33 rfl) rfl ?_
          refine wr_iconst (1 : Int32) (wg_da dt_X12_readKin 34 rfl) (by decide) ?_
          refine wr_iadd (wg_da dt_X12_readKin 35 rfl) ?_
          refine wr_let h (fun v7 h => ?_)
          refine wr_istore_n (wg_da dt_X12_readKin 36 rfl) (by decide) ?_
          refine wr_goto 26 (wg_da dt_X12_readKin 37 rfl) (by decide) ?_
          exact wr_wk [true, true] (ih x0 v7 s6 hx0 h)
set_option maxRecDepth 20000 in
theorem g_X12_readKin_2 (l : Launch) (E : wg_E)  (z : Int32 × wg_M) : ∀ (n : Nat) (x0 : Nat) (x1 : Int32) (σ : wg_M) (hx0 : wg_t Sm x0 = 14) (h : f_X12_readKin_2  n x0 x1 σ = some z), wg_G l E Sm "WornWigsModel" cX12_readKin 2 (some .int) rm_X12_readKin (some z.1) z.2 2 [some (.ref x0), some (.int x1)] [] σ := by
  intro n
  induction n with
  | zero => intro x0 x1 σ hx0 h; cases h
  | succ n ih =>
    intro x0 x1 σ hx0 h
    refine wr_iload_n (wg_da dt_X12_readKin 2 rfl) rfl ?_
    refine wr_bipush (8 : Int32) (wg_da dt_X12_readKin 3 rfl) (by decide) ?_
    refine wr_icmp_ge 24 (wg_da dt_X12_readKin 4 rfl) (by decide) h (fun h => ?_) (fun h => ?_)
    · refine wr_iconst (0 : Int32) (wg_da dt_X12_readKin 14 rfl) (by decide) ?_
      refine wr_istore_n (wg_da dt_X12_readKin 15 rfl) (by decide) ?_
      exact wr_wk [true, true] (g_X12_readKin_26 l E  _  wg_N x0 (0 : Int32) σ hx0 h)
    · refine wr_aload_n (wg_da dt_X12_readKin 5 rfl) rfl ?_
      refine wr_getR wf_X12_74 (wg_da dt_X12_readKin 6 rfl) hx0 ?_
      refine wr_bipush (8 : Int32) (wg_da dt_X12_readKin 7 rfl) (by decide) ?_
      refine wr_iload_n (wg_da dt_X12_readKin 8 rfl) rfl ?_
      refine wr_iadd (wg_da dt_X12_readKin 9 rfl) ?_
      refine wr_iconst (0 : Int32) (wg_da dt_X12_readKin 10 rfl) (by decide) ?_
      refine wr_iast (wg_da dt_X12_readKin 11 rfl) (wg_ty Sm_ok 12 42 0 hx0 rfl (by decide)).2 h (fun s1 h => ?_)
      refine wr_iinc (c0 := (1 : Int32)) (wg_da dt_X12_readKin 12 rfl) rfl (by decide) (by decide) h (fun v2 h => ?_)
      refine wr_goto 2 (wg_da dt_X12_readKin 13 rfl) (by decide) ?_
      exact wr_wk [true, true] (ih x0 v2 s1 hx0 h)
set_option maxRecDepth 20000 in
theorem g_X12_readKin_e (l : Launch) (E : wg_E)  (x0 : Nat) (σ : wg_M) (z : Int32 × wg_M) (hx0 : wg_t Sm x0 = 14) (h : f_X12_readKin  x0 σ = some z) : wg_G l E Sm "WornWigsModel" cX12_readKin 2 (some .int) rm_X12_readKin (some z.1) z.2 0 [some (.ref x0), none] [] σ := by
  refine wr_iconst (0 : Int32) (wg_da dt_X12_readKin 0 rfl) (by decide) ?_
  refine wr_istore_n (wg_da dt_X12_readKin 1 rfl) (by decide) ?_
  exact wr_wk [true, true] (g_X12_readKin_2 l E  _  wg_N x0 (0 : Int32) σ hx0 h)
theorem m_X12_readKin (l : Launch) (E : wg_E) (x0 : Nat) (hx0 : wg_t Sm x0 = 14) (σ : wg_M) (q : Int32 × wg_M) (h : f_X12_readKin x0 σ = some q) : wg_MG l E Sm yX12_readKin cX12_readKin 2 (some .int) rm_X12_readKin [.ref x0] σ (some q.1) q.2 :=
  wg_met [.ref x0] (plainFor_of_name (by decide)) (Nat.le_of_ble_eq_true rfl) (g_X12_readKin_e l E x0 σ q hx0 h)
abbrev rm_X12_readsText : Room := { frames := 9, cells := 0, slots := 0, locals := 194 }
def tb_X12_readsText : List (Nat × Instr × Nat) := [(0, .aload_n 0, 1), (1, .iconst 0, 1), (2, .putfield 266, 3), (5, .aload_n 0, 1), (6, .invokevirtual 225, 3), (9, .iload_n 1, 1), (10, .iconst 1, 1), (11, .if_icmp .ne 8, 3), (14, .aload_n 0, 1), (15, .invokevirtual 294, 3), (18, .ireturn, 1), (19, .iload_n 1, 1), (20, .iconst 2, 1), (21, .if_icmp .ne 8, 3), (24, .aload_n 0, 1), (25, .invokevirtual 297, 3), (28, .ireturn, 1), (29, .iload_n 1, 1), (30, .iconst 3, 1), (31, .if_icmp .ne 10, 3), (34, .aload_n 0, 1), (35, .invokevirtual 300, 3), (38, .goto 7, 3), (41, .aload_n 0, 1), (42, .invokevirtual 303, 3), (45, .ireturn, 1)]
theorem dt_X12_readsText : wg_dc cX12_readsText tb_X12_readsText := by unfold wg_dc; decide +kernel
def f_X12_readsText  (x0 : Nat) (x1 : Int32) (σ : wg_M) : Option (Int32 × wg_M) := wg_st σ x0 28 (0 : Int32) (fun s1 => wg_bd (f_X12_reads x0 s1) (fun _ s2 => if x1 = (1 : Int32) then (wg_bd (f_X12_readDocket x0 s2) (fun v9 s10 => some (v9, s10))) else (if x1 = (2 : Int32) then (wg_bd (f_X12_readLoans x0 s2) (fun v7 s8 => some (v7, s8))) else (if x1 = (3 : Int32) then (wg_bd (f_X12_readKin x0 s2) (fun v5 s6 => some (v5, s6))) else (wg_bd (f_X12_readLaw x0 s2) (fun v3 s4 => some (v3, s4)))))))
set_option maxRecDepth 20000 in
theorem g_X12_readsText_e (l : Launch) (E : wg_E)  (x0 : Nat) (x1 : Int32) (σ : wg_M) (z : Int32 × wg_M) (hx0 : wg_t Sm x0 = 14) (h : f_X12_readsText  x0 x1 σ = some z) : wg_G l E Sm "WornWigsModel" cX12_readsText 2 (some .int) rm_X12_readsText (some z.1) z.2 0 [some (.ref x0), some (.int x1)] [] σ := by
  refine wr_aload_n (wg_da dt_X12_readsText 0 rfl) rfl ?_
  refine wr_iconst (0 : Int32) (wg_da dt_X12_readsText 1 rfl) (by decide) ?_
  refine wr_putI wfp_X12_266 (wg_da dt_X12_readsText 2 rfl) hx0 h (fun s1 h => ?_)
  refine wr_aload_n (wg_da dt_X12_readsText 3 rfl) rfl ?_
  refine wr_callVv [] [] (wg_da dt_X12_readsText 4 rfl) ⟨wq_7_158, wq_7_160, wq_p4_15⟩ hx0 ⟨rfl, by decide⟩ wy_X12_reads (fun q hq => m_X12_reads l E x0 hx0 _ q hq) rfl rfl (Nat.le_of_ble_eq_true rfl) ⟨rfl, rfl, by decide, by decide⟩ h (fun _ s2 h => ?_)
  refine wr_iload_n (wg_da dt_X12_readsText 5 rfl) rfl ?_
  refine wr_iconst (1 : Int32) (wg_da dt_X12_readsText 6 rfl) (by decide) ?_
  refine wr_icmp_ne 19 (wg_da dt_X12_readsText 7 rfl) (by decide) h (fun h => ?_) (fun h => ?_)
  · refine wr_aload_n (wg_da dt_X12_readsText 8 rfl) rfl ?_
    refine wr_callVi [] [] (wg_da dt_X12_readsText 9 rfl) ⟨wq_7_182, wq_7_184, wq_p5_5⟩ hx0 ⟨rfl, by decide⟩ wy_X12_readDocket (fun q hq => m_X12_readDocket l E x0 hx0 _ q hq) rfl rfl (Nat.le_of_ble_eq_true rfl) ⟨rfl, rfl, by decide, by decide⟩ h (fun v9 s10 h => ?_)
    exact wr_iret (wg_da dt_X12_readsText 10 rfl) h
  · refine wr_iload_n (wg_da dt_X12_readsText 11 rfl) rfl ?_
    refine wr_iconst (2 : Int32) (wg_da dt_X12_readsText 12 rfl) (by decide) ?_
    refine wr_icmp_ne 29 (wg_da dt_X12_readsText 13 rfl) (by decide) h (fun h => ?_) (fun h => ?_)
    · refine wr_aload_n (wg_da dt_X12_readsText 14 rfl) rfl ?_
      refine wr_callVi [] [] (wg_da dt_X12_readsText 15 rfl) ⟨wq_7_214, wq_7_216, wq_p5_13⟩ hx0 ⟨rfl, by decide⟩ wy_X12_readLoans (fun q hq => m_X12_readLoans l E x0 hx0 _ q hq) rfl rfl (Nat.le_of_ble_eq_true rfl) ⟨rfl, rfl, by decide, by decide⟩ h (fun v7 s8 h => ?_)
      exact wr_iret (wg_da dt_X12_readsText 16 rfl) h
    · refine wr_iload_n (wg_da dt_X12_readsText 17 rfl) rfl ?_
      refine wr_iconst (3 : Int32) (wg_da dt_X12_readsText 18 rfl) (by decide) ?_
      refine wr_icmp_ne 41 (wg_da dt_X12_readsText 19 rfl) (by decide) h (fun h => ?_) (fun h => ?_)
      · refine wr_aload_n (wg_da dt_X12_readsText 20 rfl) rfl ?_
        refine wr_callVi [] [] (wg_da dt_X12_readsText 21 rfl) ⟨wq_7_230, wq_7_232, wq_p6_1⟩ hx0 ⟨rfl, by decide⟩ wy_X12_readKin (fun q hq => m_X12_readKin l E x0 hx0 _ q hq) rfl rfl (Nat.le_of_ble_eq_true rfl) ⟨rfl, rfl, by decide, by decide⟩ h (fun v5 s6 h => ?_)
        refine wr_goto 45 (wg_da dt_X12_readsText 22 rfl) (by decide) ?_
        exact wr_iret (wg_da dt_X12_readsText 25 rfl) h
      · refine wr_aload_n (wg_da dt_X12_readsText 23 rfl) rfl ?_
        refine wr_callVi [] [] (wg_da dt_X12_readsText 24 rfl) ⟨wq_7_238, wq_8_0, wq_p6_3⟩ hx0 ⟨rfl, by decide⟩ wy_X12_readLaw (fun q hq => m_X12_readLaw l E x0 hx0 _ q hq) rfl rfl (Nat.le_of_ble_eq_true rfl) ⟨rfl, rfl, by decide, by decide⟩ h (fun v3 s4 h => ?_)
        exact wr_iret (wg_da dt_X12_readsText 25 rfl) h
theorem m_X12_readsText (l : Launch) (E : wg_E) (x0 : Nat) (x1 : Int32) (hx0 : wg_t Sm x0 = 14) (σ : wg_M) (q : Int32 × wg_M) (h : f_X12_readsText x0 x1 σ = some q) : wg_MG l E Sm yX12_readsText cX12_readsText 2 (some .int) rm_X12_readsText [.ref x0, .int x1] σ (some q.1) q.2 :=
  wg_met [.ref x0, .int x1] (plainFor_of_name (by decide)) (Nat.le_of_ble_eq_true rfl) (g_X12_readsText_e l E x0 x1 σ q hx0 h)
abbrev rm_X12_takesOther : Room := { frames := 0, cells := 0, slots := 0, locals := 0 }
def tb_X12_takesOther : List (Nat × Instr × Nat) := [(0, .iload_n 1, 1), (1, .iconst 3, 1), (2, .if_icmp .ne 38, 3), (5, .iconst 0, 1), (6, .istore_n 3, 1), (7, .iload_n 3, 1), (8, .bipush 8, 2), (10, .if_icmp .ge 24, 3), (13, .aload_n 0, 1), (14, .getfield 74, 3), (17, .iload_n 3, 1), (18, .aload_n 0, 1), (19, .getfield 74, 3), (22, .bipush 8, 2), (24, .iload_n 3, 1), (25, .iadd, 1), (26, .iaload, 1), (27, .iastore, 1), (28, .iinc 3 1, 3), (31, .goto (-24), 3), (34, .aload_n 0, 1), (35, .iload_n 2, 1), (36, .putfield 306, 3), (39, .return_, 1), (40, .iload_n 1, 1), (41, .iconst 1, 1), (42, .if_icmp .ne 41, 3), (45, .iconst 0, 1), (46, .istore_n 3, 1), (47, .iload_n 3, 1), (48, .iconst 3, 1), (49, .iload_n 2, 1), (50, .imul, 1), (51, .if_icmp .ge 24, 3), (54, .aload_n 0, 1), (55, .getfield 68, 3), (58, .iload_n 3, 1), (59, .aload_n 0, 1), (60, .getfield 68, 3), (63, .bipush 48, 2), (65, .iload_n 3, 1), (66, .iadd, 1), (67, .iaload, 1), (68, .iastore, 1), (69, .iinc 3 1, 3), (72, .goto (-25), 3), (75, .aload_n 0, 1), (76, .iload_n 2, 1), (77, .putfield 309, 3), (80, .goto 38, 3), (83, .iconst 0, 1), (84, .istore_n 3, 1), (85, .iload_n 3, 1), (86, .iconst 4, 1), (87, .iload_n 2, 1), (88, .imul, 1), (89, .if_icmp .ge 24, 3), (92, .aload_n 0, 1), (93, .getfield 71, 3), (96, .iload_n 3, 1), (97, .aload_n 0, 1), (98, .getfield 71, 3), (101, .bipush 64, 2), (103, .iload_n 3, 1), (104, .iadd, 1), (105, .iaload, 1), (106, .iastore, 1), (107, .iinc 3 1, 3), (110, .goto (-25), 3), (113, .aload_n 0, 1), (114, .iload_n 2, 1), (115, .putfield 312, 3), (118, .aload_n 0, 1), (119, .iconst 0, 1), (120, .putfield 116, 3), (123, .return_, 1)]
theorem dt_X12_takesOther : wg_dc cX12_takesOther tb_X12_takesOther := by unfold wg_dc; decide +kernel
def f_X12_takesOther_118  (x0 : Nat) (σ : wg_M) : Option (Int32 × wg_M) := wg_st σ x0 3 (0 : Int32) (fun s1 => some (0, s1))
def f_X12_takesOther_85  : Nat → Nat → Int32 → Int32 → wg_M → Option (Int32 × wg_M)
  | 0, _, _, _, _ => none
  | n + 1, x0, x2, x3, σ => if ((4 : Int32) * x2) ≤ x3 then (wg_st σ x0 39 x2 (fun s1 => f_X12_takesOther_118  x0 s1)) else (wg_ga (wg_n Sm (wg_r Sm x0 40)) (σ (wg_r Sm x0 40)) ((64 : Int32) + x3) (fun v2 => wg_sa (wg_n Sm (wg_r Sm x0 40)) σ (wg_r Sm x0 40) x3 v2 (fun s3 => wg_let (x3 + (1 : Int32)) (fun v4 => f_X12_takesOther_85  n x0 x2 v4 s3))))
def f_X12_takesOther_47  : Nat → Nat → Int32 → Int32 → wg_M → Option (Int32 × wg_M)
  | 0, _, _, _, _ => none
  | n + 1, x0, x2, x3, σ => if ((3 : Int32) * x2) ≤ x3 then (wg_st σ x0 37 x2 (fun s1 => f_X12_takesOther_118  x0 s1)) else (wg_ga (wg_n Sm (wg_r Sm x0 38)) (σ (wg_r Sm x0 38)) ((48 : Int32) + x3) (fun v2 => wg_sa (wg_n Sm (wg_r Sm x0 38)) σ (wg_r Sm x0 38) x3 v2 (fun s3 => wg_let (x3 + (1 : Int32)) (fun v4 => f_X12_takesOther_47  n x0 x2 v4 s3))))
def f_X12_takesOther_7  : Nat → Nat → Int32 → Int32 → wg_M → Option (Int32 × wg_M)
  | 0, _, _, _, _ => none
  | n + 1, x0, x2, x3, σ => if (8 : Int32) ≤ x3 then (wg_st σ x0 41 x2 (fun s1 => some (0, s1))) else (wg_ga (wg_n Sm (wg_r Sm x0 42)) (σ (wg_r Sm x0 42)) ((8 : Int32) + x3) (fun v2 => wg_sa (wg_n Sm (wg_r Sm x0 42)) σ (wg_r Sm x0 42) x3 v2 (fun s3 => wg_let (x3 + (1 : Int32)) (fun v4 => f_X12_takesOther_7  n x0 x2 v4 s3))))
def f_X12_takesOther  (x0 : Nat) (x1 : Int32) (x2 : Int32) (σ : wg_M) : Option (Int32 × wg_M) := if x1 = (3 : Int32) then (f_X12_takesOther_7  wg_N x0 x2 (0 : Int32) σ) else (if x1 = (1 : Int32) then (f_X12_takesOther_47  wg_N x0 x2 (0 : Int32) σ) else (f_X12_takesOther_85  wg_N x0 x2 (0 : Int32) σ))
set_option maxRecDepth 20000 in
theorem g_X12_takesOther_118 (l : Launch) (E : wg_E)  (x0 : Nat) (σ : wg_M) (z : Int32 × wg_M) (hx0 : wg_t Sm x0 = 14) (h : f_X12_takesOther_118  x0 σ = some z) : wg_G l E Sm "WornWigsModel" cX12_takesOther 4 none rm_X12_takesOther none z.2 118 [some (.ref x0), none, none, none] [] σ := by
  refine wr_aload_n (wg_da dt_X12_takesOther 72 rfl) rfl ?_
  refine wr_iconst (0 : Int32) (wg_da dt_X12_takesOther 73 rfl) (by decide) ?_
  refine wr_putI wfp_X12_116 (wg_da dt_X12_takesOther 74 rfl) hx0 h (fun s1 h => ?_)
  exact wr_vret (wg_da dt_X12_takesOther 75 rfl) h
set_option maxRecDepth 20000 in
theorem g_X12_takesOther_85 (l : Launch) (E : wg_E)  (z : Int32 × wg_M) : ∀ (n : Nat) (x0 : Nat) (x2 : Int32) (x3 : Int32) (σ : wg_M) (hx0 : wg_t Sm x0 = 14) (h : f_X12_takesOther_85  n x0 x2 x3 σ = some z), wg_G l E Sm "WornWigsModel" cX12_takesOther 4 none rm_X12_takesOther none z.2 85 [some (.ref x0), none, some (.int x2), some (.int x3)] [] σ := by
  intro n
  induction n with
  | zero => intro x0 x2 x3 σ hx0 h; cases h
  | succ n ih =>
    intro x0 x2 x3 σ hx0 h
    refine wr_iload_n (wg_da dt_X12_takesOther 52 rfl) rfl ?_
    refine wr_iconst (4 : Int32) (wg_da dt_X12_takesOther 53 rfl) (by decide) ?_
    refine wr_iload_n (wg_da dt_X12_takesOther 54 rfl) rfl ?_
    refine wr_imul (wg_da dt_X12_takesOther 55 rfl) ?_
    refine wr_icmp_ge 113 (wg_da dt_X12_takesOther 56 rfl) (by decide) h (fun h => ?_) (fun h => ?_)
    · refine wr_aload_n (wg_da dt_X12_takesOther 69 rfl) rfl ?_
      refine wr_iload_n (wg_da dt_X12_takesOther 70 rfl) rfl ?_
      refine wr_putI wfp_X12_312 (wg_da dt_X12_takesOther 71 rfl) hx0 h (fun s1 h => ?_)
      exact wr_wk [true, false, false, false] (g_X12_takesOther_118 l E  x0 s1 _ hx0  h)
    · refine wr_aload_n (wg_da dt_X12_takesOther 57 rfl) rfl ?_
      refine wr_getR wf_X12_71 (wg_da dt_X12_takesOther 58 rfl) hx0 ?_
      refine wr_iload_n (wg_da dt_X12_takesOther 59 rfl) rfl ?_
      refine wr_aload_n (wg_da dt_X12_takesOther 60 rfl) rfl ?_
      refine wr_getR wf_X12_71 (wg_da dt_X12_takesOther 61 rfl) hx0 ?_
      refine wr_bipush (64 : Int32) (wg_da dt_X12_takesOther 62 rfl) (by decide) ?_
      refine wr_iload_n (wg_da dt_X12_takesOther 63 rfl) rfl ?_
      refine wr_iadd (wg_da dt_X12_takesOther 64 rfl) ?_
      refine wr_iald (wg_da dt_X12_takesOther 65 rfl) (wg_ty Sm_ok 12 40 0 hx0 rfl (by decide)).2 h (fun v2 h => ?_)
      refine wr_iast (wg_da dt_X12_takesOther 66 rfl) (wg_ty Sm_ok 12 40 0 hx0 rfl (by decide)).2 h (fun s3 h => ?_)
      refine wr_iinc (c0 := (1 : Int32)) (wg_da dt_X12_takesOther 67 rfl) rfl (by decide) (by decide) h (fun v4 h => ?_)
      refine wr_goto 85 (wg_da dt_X12_takesOther 68 rfl) (by decide) ?_
      exact wr_wk [true, false, true, true] (ih x0 x2 v4 s3 hx0 h)
set_option maxRecDepth 20000 in
theorem g_X12_takesOther_47 (l : Launch) (E : wg_E)  (z : Int32 × wg_M) : ∀ (n : Nat) (x0 : Nat) (x2 : Int32) (x3 : Int32) (σ : wg_M) (hx0 : wg_t Sm x0 = 14) (h : f_X12_takesOther_47  n x0 x2 x3 σ = some z), wg_G l E Sm "WornWigsModel" cX12_takesOther 4 none rm_X12_takesOther none z.2 47 [some (.ref x0), none, some (.int x2), some (.int x3)] [] σ := by
  intro n
  induction n with
  | zero => intro x0 x2 x3 σ hx0 h; cases h
  | succ n ih =>
    intro x0 x2 x3 σ hx0 h
    refine wr_iload_n (wg_da dt_X12_takesOther 29 rfl) rfl ?_
    refine wr_iconst (3 : Int32) (wg_da dt_X12_takesOther 30 rfl) (by decide) ?_
    refine wr_iload_n (wg_da dt_X12_takesOther 31 rfl) rfl ?_
    refine wr_imul (wg_da dt_X12_takesOther 32 rfl) ?_
    refine wr_icmp_ge 75 (wg_da dt_X12_takesOther 33 rfl) (by decide) h (fun h => ?_) (fun h => ?_)
    · refine wr_aload_n (wg_da dt_X12_takesOther 46 rfl) rfl ?_
      refine wr_iload_n (wg_da dt_X12_takesOther 47 rfl) rfl ?_
      refine wr_putI wfp_X12_309 (wg_da dt_X12_takesOther 48 rfl) hx0 h (fun s1 h => ?_)
      refine wr_goto 118 (wg_da dt_X12_takesOther 49 rfl) (by decide) ?_
      exact wr_wk [true, false, false, false] (g_X12_takesOther_118 l E  x0 s1 _ hx0  h)
    · refine wr_aload_n (wg_da dt_X12_takesOther 34 rfl) rfl ?_
      refine wr_getR wf_X12_68 (wg_da dt_X12_takesOther 35 rfl) hx0 ?_
      refine wr_iload_n (wg_da dt_X12_takesOther 36 rfl) rfl ?_
      refine wr_aload_n (wg_da dt_X12_takesOther 37 rfl) rfl ?_
      refine wr_getR wf_X12_68 (wg_da dt_X12_takesOther 38 rfl) hx0 ?_
      refine wr_bipush (48 : Int32) (wg_da dt_X12_takesOther 39 rfl) (by decide) ?_
      refine wr_iload_n (wg_da dt_X12_takesOther 40 rfl) rfl ?_
      refine wr_iadd (wg_da dt_X12_takesOther 41 rfl) ?_
      refine wr_iald (wg_da dt_X12_takesOther 42 rfl) (wg_ty Sm_ok 12 38 0 hx0 rfl (by decide)).2 h (fun v2 h => ?_)
      refine wr_iast (wg_da dt_X12_takesOther 43 rfl) (wg_ty Sm_ok 12 38 0 hx0 rfl (by decide)).2 h (fun s3 h => ?_)
      refine wr_iinc (c0 := (1 : Int32)) (wg_da dt_X12_takesOther 44 rfl) rfl (by decide) (by decide) h (fun v4 h => ?_)
      refine wr_goto 47 (wg_da dt_X12_takesOther 45 rfl) (by decide) ?_
      exact wr_wk [true, false, true, true] (ih x0 x2 v4 s3 hx0 h)
set_option maxRecDepth 20000 in
theorem g_X12_takesOther_7 (l : Launch) (E : wg_E)  (z : Int32 × wg_M) : ∀ (n : Nat) (x0 : Nat) (x2 : Int32) (x3 : Int32) (σ : wg_M) (hx0 : wg_t Sm x0 = 14) (h : f_X12_takesOther_7  n x0 x2 x3 σ = some z), wg_G l E Sm "WornWigsModel" cX12_takesOther 4 none rm_X12_takesOther none z.2 7 [some (.ref x0), none, some (.int x2), some (.int x3)] [] σ := by
  intro n
  induction n with
  | zero => intro x0 x2 x3 σ hx0 h; cases h
  | succ n ih =>
    intro x0 x2 x3 σ hx0 h
    refine wr_iload_n (wg_da dt_X12_takesOther 5 rfl) rfl ?_
    refine wr_bipush (8 : Int32) (wg_da dt_X12_takesOther 6 rfl) (by decide) ?_
    refine wr_icmp_ge 34 (wg_da dt_X12_takesOther 7 rfl) (by decide) h (fun h => ?_) (fun h => ?_)
    · refine wr_aload_n (wg_da dt_X12_takesOther 20 rfl) rfl ?_
      refine wr_iload_n (wg_da dt_X12_takesOther 21 rfl) rfl ?_
      refine wr_putI wfp_X12_306 (wg_da dt_X12_takesOther 22 rfl) hx0 h (fun s1 h => ?_)
      exact wr_vret (wg_da dt_X12_takesOther 23 rfl) h
    · refine wr_aload_n (wg_da dt_X12_takesOther 8 rfl) rfl ?_
      refine wr_getR wf_X12_74 (wg_da dt_X12_takesOther 9 rfl) hx0 ?_
      refine wr_iload_n (wg_da dt_X12_takesOther 10 rfl) rfl ?_
      refine wr_aload_n (wg_da dt_X12_takesOther 11 rfl) rfl ?_
      refine wr_getR wf_X12_74 (wg_da dt_X12_takesOther 12 rfl) hx0 ?_
      refine wr_bipush (8 : Int32) (wg_da dt_X12_takesOther 13 rfl) (by decide) ?_
      refine wr_iload_n (wg_da dt_X12_takesOther 14 rfl) rfl ?_
      refine wr_iadd (wg_da dt_X12_takesOther 15 rfl) ?_
      refine wr_iald (wg_da dt_X12_takesOther 16 rfl) (wg_ty Sm_ok 12 42 0 hx0 rfl (by decide)).2 h (fun v2 h => ?_)
      refine wr_iast (wg_da dt_X12_takesOther 17 rfl) (wg_ty Sm_ok 12 42 0 hx0 rfl (by decide)).2 h (fun s3 h => ?_)
      refine wr_iinc (c0 := (1 : Int32)) (wg_da dt_X12_takesOther 18 rfl) rfl (by decide) (by decide) h (fun v4 h => ?_)
      refine wr_goto 7 (wg_da dt_X12_takesOther 19 rfl) (by decide) ?_
      exact wr_wk [true, false, true, true] (ih x0 x2 v4 s3 hx0 h)
set_option maxRecDepth 20000 in
theorem g_X12_takesOther_e (l : Launch) (E : wg_E)  (x0 : Nat) (x1 : Int32) (x2 : Int32) (σ : wg_M) (z : Int32 × wg_M) (hx0 : wg_t Sm x0 = 14) (h : f_X12_takesOther  x0 x1 x2 σ = some z) : wg_G l E Sm "WornWigsModel" cX12_takesOther 4 none rm_X12_takesOther none z.2 0 [some (.ref x0), some (.int x1), some (.int x2), none] [] σ := by
  refine wr_iload_n (wg_da dt_X12_takesOther 0 rfl) rfl ?_
  refine wr_iconst (3 : Int32) (wg_da dt_X12_takesOther 1 rfl) (by decide) ?_
  refine wr_icmp_ne 40 (wg_da dt_X12_takesOther 2 rfl) (by decide) h (fun h => ?_) (fun h => ?_)
  · refine wr_iconst (0 : Int32) (wg_da dt_X12_takesOther 3 rfl) (by decide) ?_
    refine wr_istore_n (wg_da dt_X12_takesOther 4 rfl) (by decide) ?_
    exact wr_wk [true, false, true, true] (g_X12_takesOther_7 l E  _  wg_N x0 x2 (0 : Int32) σ hx0 h)
  · refine wr_iload_n (wg_da dt_X12_takesOther 24 rfl) rfl ?_
    refine wr_iconst (1 : Int32) (wg_da dt_X12_takesOther 25 rfl) (by decide) ?_
    refine wr_icmp_ne 83 (wg_da dt_X12_takesOther 26 rfl) (by decide) h (fun h => ?_) (fun h => ?_)
    · refine wr_iconst (0 : Int32) (wg_da dt_X12_takesOther 27 rfl) (by decide) ?_
      refine wr_istore_n (wg_da dt_X12_takesOther 28 rfl) (by decide) ?_
      exact wr_wk [true, false, true, true] (g_X12_takesOther_47 l E  _  wg_N x0 x2 (0 : Int32) σ hx0 h)
    · refine wr_iconst (0 : Int32) (wg_da dt_X12_takesOther 50 rfl) (by decide) ?_
      refine wr_istore_n (wg_da dt_X12_takesOther 51 rfl) (by decide) ?_
      exact wr_wk [true, false, true, true] (g_X12_takesOther_85 l E  _  wg_N x0 x2 (0 : Int32) σ hx0 h)
theorem m_X12_takesOther (l : Launch) (E : wg_E) (x0 : Nat) (x1 : Int32) (x2 : Int32) (hx0 : wg_t Sm x0 = 14) (σ : wg_M) (q : Int32 × wg_M) (h : f_X12_takesOther x0 x1 x2 σ = some q) : wg_MG l E Sm yX12_takesOther cX12_takesOther 4 none rm_X12_takesOther [.ref x0, .int x1, .int x2] σ none q.2 :=
  wg_met [.ref x0, .int x1, .int x2] (plainFor_of_name (by decide)) (Nat.le_of_ble_eq_true rfl) (g_X12_takesOther_e l E x0 x1 x2 σ q hx0 h)
abbrev rm_X12_text : Room := { frames := 10, cells := 0, slots := 0, locals := 215 }
def tb_X12_text : List (Nat × Instr × Nat) := [(0, .aload_n 0, 1), (1, .iconst 0, 1), (2, .putfield 113, 3), (5, .aload_n 0, 1), (6, .iconst 0, 1), (7, .putfield 315, 3), (10, .aload_n 0, 1), (11, .iconst (-1), 1), (12, .putfield 64, 3), (15, .aload_n 0, 1), (16, .iconst 0, 1), (17, .putfield 179, 3), (20, .aload_n 0, 1), (21, .iconst 0, 1), (22, .putfield 212, 3), (25, .aload_n 0, 1), (26, .iconst 0, 1), (27, .putfield 244, 3), (30, .iconst (-1), 1), (31, .istore_n 2, 1), (32, .aload_n 0, 1), (33, .iload_n 1, 1), (34, .iconst 0, 1), (35, .iconst 3, 1), (36, .invokevirtual 153, 3), (39, .ifCond .eq 30, 3), (42, .aload_n 0, 1), (43, .iload_n 1, 1), (44, .invokevirtual 318, 3), (47, .istore_n 2, 1), (48, .iload_n 2, 1), (49, .iconst (-1), 1), (50, .if_icmp .ne 19, 3), (53, .aload_n 0, 1), (54, .aload_n 0, 1), (55, .getfield 206, 3), (58, .putfield 315, 3), (61, .aload_n 0, 1), (62, .aload_n 0, 1), (63, .getfield 209, 3), (66, .putfield 64, 3), (69, .aload_n 0, 1), (70, .iconst 0, 1), (71, .putfield 173, 3), (74, .iload_n 2, 1), (75, .iconst (-1), 1), (76, .if_icmp .ne 5, 3), (79, .iconst (-1), 1), (80, .ireturn, 1), (81, .iload_n 1, 1), (82, .ifCond .ne 11, 3), (85, .aload_n 0, 1), (86, .iload_n 2, 1), (87, .invokevirtual 321, 3), (90, .goto 9, 3), (93, .aload_n 0, 1), (94, .iload_n 1, 1), (95, .iload_n 2, 1), (96, .invokevirtual 324, 3), (99, .iload_n 2, 1), (100, .ireturn, 1)]
theorem dt_X12_text : wg_dc cX12_text tb_X12_text := by unfold wg_dc; decide +kernel
def f_X12_text_69  (x0 : Nat) (x1 : Int32) (x2 : Int32) (σ : wg_M) : Option (Int32 × wg_M) := wg_st σ x0 15 (0 : Int32) (fun s1 => if x2 = (-1 : Int32) then (some ((-1 : Int32), s1)) else (if x1 = 0 then (wg_bd (f_X12_takesLaw x0 x2 s1) (fun _ s3 => some (x2, s3))) else (wg_bd (f_X12_takesOther x0 x1 x2 s1) (fun _ s2 => some (x2, s2)))))
def f_X12_text  (x0 : Nat) (x1 : Int32) (σ : wg_M) : Option (Int32 × wg_M) := wg_st σ x0 0 (0 : Int32) (fun s1 => wg_st s1 x0 35 (0 : Int32) (fun s2 => wg_st s2 x0 36 (-1 : Int32) (fun s3 => wg_st s3 x0 16 (0 : Int32) (fun s4 => wg_st s4 x0 29 (0 : Int32) (fun s5 => wg_st s5 x0 30 (0 : Int32) (fun s6 => wg_bd (f_X12_isIn x0 x1 (0 : Int32) (3 : Int32) s6) (fun v7 s8 => if v7 = 0 then (f_X12_text_69  x0 x1 (-1 : Int32) s8) else (wg_bd (f_X12_readsText x0 x1 s8) (fun v9 s10 => if v9 = (-1 : Int32) then (wg_st s10 x0 35 (s10 x0 33) (fun s11 => wg_st s11 x0 36 (s11 x0 34) (fun s12 => f_X12_text_69  x0 x1 v9 s12))) else (f_X12_text_69  x0 x1 v9 s10))))))))))
set_option maxRecDepth 20000 in
theorem g_X12_text_69 (l : Launch) (E : wg_E)  (x0 : Nat) (x1 : Int32) (x2 : Int32) (σ : wg_M) (z : Int32 × wg_M) (hx0 : wg_t Sm x0 = 14) (h : f_X12_text_69  x0 x1 x2 σ = some z) : wg_G l E Sm "WornWigsModel" cX12_text 3 (some .int) rm_X12_text (some z.1) z.2 69 [some (.ref x0), some (.int x1), some (.int x2)] [] σ := by
  refine wr_aload_n (wg_da dt_X12_text 41 rfl) rfl ?_
  refine wr_iconst (0 : Int32) (wg_da dt_X12_text 42 rfl) (by decide) ?_
  refine wr_putI wfp_X12_173 (wg_da dt_X12_text 43 rfl) hx0 h (fun s1 h => ?_)
  refine wr_iload_n (wg_da dt_X12_text 44 rfl) rfl ?_
  refine wr_iconst (-1 : Int32) (wg_da dt_X12_text 45 rfl) (by decide) ?_
  refine wr_icmp_ne 81 (wg_da dt_X12_text 46 rfl) (by decide) h (fun h => ?_) (fun h => ?_)
  · refine wr_iconst (-1 : Int32) (wg_da dt_X12_text 47 rfl) (by decide) ?_
    exact wr_iret (wg_da dt_X12_text 48 rfl) h
  · refine wr_iload_n (wg_da dt_X12_text 49 rfl) rfl ?_
    refine wr_if_ne 93 (wg_da dt_X12_text 50 rfl) (by decide) h (fun h => ?_) (fun h => ?_)
    · refine wr_aload_n (wg_da dt_X12_text 51 rfl) rfl ?_
      refine wr_iload_n (wg_da dt_X12_text 52 rfl) rfl ?_
      refine wr_callVv [.int x2] [] (wg_da dt_X12_text 53 rfl) ⟨wq_8_42, wq_8_44, wq_p6_14⟩ hx0 ⟨rfl, by decide⟩ wy_X12_takesLaw (fun q hq => m_X12_takesLaw l E x0 x2 hx0 _ q hq) rfl rfl (Nat.le_of_ble_eq_true rfl) ⟨rfl, rfl, by decide, by decide⟩ h (fun _ s3 h => ?_)
      refine wr_goto 99 (wg_da dt_X12_text 54 rfl) (by decide) ?_
      refine wr_iload_n (wg_da dt_X12_text 59 rfl) rfl ?_
      exact wr_iret (wg_da dt_X12_text 60 rfl) h
    · refine wr_aload_n (wg_da dt_X12_text 55 rfl) rfl ?_
      refine wr_iload_n (wg_da dt_X12_text 56 rfl) rfl ?_
      refine wr_iload_n (wg_da dt_X12_text 57 rfl) rfl ?_
      refine wr_callVv [.int x1, .int x2] [] (wg_da dt_X12_text 58 rfl) ⟨wq_8_46, wq_8_48, wq_p6_15⟩ hx0 ⟨rfl, by decide⟩ wy_X12_takesOther (fun q hq => m_X12_takesOther l E x0 x1 x2 hx0 _ q hq) rfl rfl (Nat.le_of_ble_eq_true rfl) ⟨rfl, rfl, by decide, by decide⟩ h (fun _ s2 h => ?_)
      refine wr_iload_n (wg_da dt_X12_text 59 rfl) rfl ?_
      exact wr_iret (wg_da dt_X12_text 60 rfl) h
set_option maxRecDepth 20000 in
theorem g_X12_text_e (l : Launch) (E : wg_E)  (x0 : Nat) (x1 : Int32) (σ : wg_M) (z : Int32 × wg_M) (hx0 : wg_t Sm x0 = 14) (h : f_X12_text  x0 x1 σ = some z) : wg_G l E Sm "WornWigsModel" cX12_text 3 (some .int) rm_X12_text (some z.1) z.2 0 [some (.ref x0), some (.int x1), none] [] σ := by
  refine wr_aload_n (wg_da dt_X12_text 0 rfl) rfl ?_
  refine wr_iconst (0 : Int32) (wg_da dt_X12_text 1 rfl) (by decide) ?_
  refine wr_putI wfp_X12_113 (wg_da dt_X12_text 2 rfl) hx0 h (fun s1 h => ?_)
  refine wr_aload_n (wg_da dt_X12_text 3 rfl) rfl ?_
  refine wr_iconst (0 : Int32) (wg_da dt_X12_text 4 rfl) (by decide) ?_
  refine wr_putI wfp_X12_315 (wg_da dt_X12_text 5 rfl) hx0 h (fun s2 h => ?_)
  refine wr_aload_n (wg_da dt_X12_text 6 rfl) rfl ?_
  refine wr_iconst (-1 : Int32) (wg_da dt_X12_text 7 rfl) (by decide) ?_
  refine wr_putI wfp_X12_64 (wg_da dt_X12_text 8 rfl) hx0 h (fun s3 h => ?_)
  refine wr_aload_n (wg_da dt_X12_text 9 rfl) rfl ?_
  refine wr_iconst (0 : Int32) (wg_da dt_X12_text 10 rfl) (by decide) ?_
  refine wr_putI wfp_X12_179 (wg_da dt_X12_text 11 rfl) hx0 h (fun s4 h => ?_)
  refine wr_aload_n (wg_da dt_X12_text 12 rfl) rfl ?_
  refine wr_iconst (0 : Int32) (wg_da dt_X12_text 13 rfl) (by decide) ?_
  refine wr_putI wfp_X12_212 (wg_da dt_X12_text 14 rfl) hx0 h (fun s5 h => ?_)
  refine wr_aload_n (wg_da dt_X12_text 15 rfl) rfl ?_
  refine wr_iconst (0 : Int32) (wg_da dt_X12_text 16 rfl) (by decide) ?_
  refine wr_putI wfp_X12_244 (wg_da dt_X12_text 17 rfl) hx0 h (fun s6 h => ?_)
  refine wr_iconst (-1 : Int32) (wg_da dt_X12_text 18 rfl) (by decide) ?_
  refine wr_istore_n (wg_da dt_X12_text 19 rfl) (by decide) ?_
  refine wr_aload_n (wg_da dt_X12_text 20 rfl) rfl ?_
  refine wr_iload_n (wg_da dt_X12_text 21 rfl) rfl ?_
  refine wr_iconst (0 : Int32) (wg_da dt_X12_text 22 rfl) (by decide) ?_
  refine wr_iconst (3 : Int32) (wg_da dt_X12_text 23 rfl) (by decide) ?_
  refine wr_callVi [.int x1, .int (0 : Int32), .int (3 : Int32)] [] (wg_da dt_X12_text 24 rfl) ⟨wq_7_82, wq_7_84, wq_p4_3⟩ hx0 ⟨rfl, by decide⟩ wy_X12_isIn (fun q hq => m_X12_isIn l E x0 x1 (0 : Int32) (3 : Int32) hx0 _ q hq) rfl rfl (Nat.le_of_ble_eq_true rfl) ⟨rfl, rfl, by decide, by decide⟩ h (fun v7 s8 h => ?_)
  refine wr_if_eq 69 (wg_da dt_X12_text 25 rfl) (by decide) h (fun h => ?_) (fun h => ?_)
  · exact wr_wk [true, true, true] (g_X12_text_69 l E  x0 x1 (-1 : Int32) s8 _ hx0  h)
  · refine wr_aload_n (wg_da dt_X12_text 26 rfl) rfl ?_
    refine wr_iload_n (wg_da dt_X12_text 27 rfl) rfl ?_
    refine wr_callVi [.int x1] [] (wg_da dt_X12_text 28 rfl) ⟨wq_7_154, wq_7_156, wq_p4_14⟩ hx0 ⟨rfl, by decide⟩ wy_X12_readsText (fun q hq => m_X12_readsText l E x0 x1 hx0 _ q hq) rfl rfl (Nat.le_of_ble_eq_true rfl) ⟨rfl, rfl, by decide, by decide⟩ h (fun v9 s10 h => ?_)
    refine wr_istore_n (wg_da dt_X12_text 29 rfl) (by decide) ?_
    refine wr_iload_n (wg_da dt_X12_text 30 rfl) rfl ?_
    refine wr_iconst (-1 : Int32) (wg_da dt_X12_text 31 rfl) (by decide) ?_
    refine wr_icmp_ne 69 (wg_da dt_X12_text 32 rfl) (by decide) h (fun h => ?_) (fun h => ?_)
    · refine wr_aload_n (wg_da dt_X12_text 33 rfl) rfl ?_
      refine wr_aload_n (wg_da dt_X12_text 34 rfl) rfl ?_
      refine wr_getI wf_X12_206 (wg_da dt_X12_text 35 rfl) hx0 ?_
      refine wr_putI wfp_X12_315 (wg_da dt_X12_text 36 rfl) hx0 h (fun s11 h => ?_)
      refine wr_aload_n (wg_da dt_X12_text 37 rfl) rfl ?_
      refine wr_aload_n (wg_da dt_X12_text 38 rfl) rfl ?_
      refine wr_getI wf_X12_209 (wg_da dt_X12_text 39 rfl) hx0 ?_
      refine wr_putI wfp_X12_64 (wg_da dt_X12_text 40 rfl) hx0 h (fun s12 h => ?_)
      exact wr_wk [true, true, true] (g_X12_text_69 l E  x0 x1 v9 s12 _ hx0  h)
    · exact wr_wk [true, true, true] (g_X12_text_69 l E  x0 x1 v9 s10 _ hx0  h)
theorem m_X12_text (l : Launch) (E : wg_E) (x0 : Nat) (x1 : Int32) (hx0 : wg_t Sm x0 = 14) (σ : wg_M) (q : Int32 × wg_M) (h : f_X12_text x0 x1 σ = some q) : wg_MG l E Sm yX12_text cX12_text 3 (some .int) rm_X12_text [.ref x0, .int x1] σ (some q.1) q.2 :=
  wg_met [.ref x0, .int x1] (plainFor_of_name (by decide)) (Nat.le_of_ble_eq_true rfl) (g_X12_text_e l E x0 x1 σ q hx0 h)
abbrev rm_X12_fault : Room := { frames := 0, cells := 0, slots := 0, locals := 0 }
def tb_X12_fault : List (Nat × Instr × Nat) := [(0, .aload_n 0, 1), (1, .iconst 0, 1), (2, .putfield 113, 3), (5, .iload_n 1, 1), (6, .ifCond .ne 10, 3), (9, .aload_n 0, 1), (10, .getfield 315, 3), (13, .goto 16, 3), (16, .iload_n 1, 1), (17, .iconst 1, 1), (18, .if_icmp .ne 10, 3), (21, .aload_n 0, 1), (22, .getfield 64, 3), (25, .goto 4, 3), (28, .iconst (-1), 1), (29, .ireturn, 1)]
theorem dt_X12_fault : wg_dc cX12_fault tb_X12_fault := by unfold wg_dc; decide +kernel
def f_X12_fault  (x0 : Nat) (x1 : Int32) (σ : wg_M) : Option (Int32 × wg_M) := wg_st σ x0 0 (0 : Int32) (fun s1 => if x1 = 0 then (some (s1 x0 35, s1)) else (if x1 = (1 : Int32) then (some (s1 x0 36, s1)) else (some ((-1 : Int32), s1))))
set_option maxRecDepth 20000 in
theorem g_X12_fault_e (l : Launch) (E : wg_E)  (x0 : Nat) (x1 : Int32) (σ : wg_M) (z : Int32 × wg_M) (hx0 : wg_t Sm x0 = 14) (h : f_X12_fault  x0 x1 σ = some z) : wg_G l E Sm "WornWigsModel" cX12_fault 2 (some .int) rm_X12_fault (some z.1) z.2 0 [some (.ref x0), some (.int x1)] [] σ := by
  refine wr_aload_n (wg_da dt_X12_fault 0 rfl) rfl ?_
  refine wr_iconst (0 : Int32) (wg_da dt_X12_fault 1 rfl) (by decide) ?_
  refine wr_putI wfp_X12_113 (wg_da dt_X12_fault 2 rfl) hx0 h (fun s1 h => ?_)
  refine wr_iload_n (wg_da dt_X12_fault 3 rfl) rfl ?_
  refine wr_if_ne 16 (wg_da dt_X12_fault 4 rfl) (by decide) h (fun h => ?_) (fun h => ?_)
  · refine wr_aload_n (wg_da dt_X12_fault 5 rfl) rfl ?_
    refine wr_getI wf_X12_315 (wg_da dt_X12_fault 6 rfl) hx0 ?_
    refine wr_goto 29 (wg_da dt_X12_fault 7 rfl) (by decide) ?_
    exact wr_iret (wg_da dt_X12_fault 15 rfl) h
  · refine wr_iload_n (wg_da dt_X12_fault 8 rfl) rfl ?_
    refine wr_iconst (1 : Int32) (wg_da dt_X12_fault 9 rfl) (by decide) ?_
    refine wr_icmp_ne 28 (wg_da dt_X12_fault 10 rfl) (by decide) h (fun h => ?_) (fun h => ?_)
    · refine wr_aload_n (wg_da dt_X12_fault 11 rfl) rfl ?_
      refine wr_getI wf_X12_64 (wg_da dt_X12_fault 12 rfl) hx0 ?_
      refine wr_goto 29 (wg_da dt_X12_fault 13 rfl) (by decide) ?_
      exact wr_iret (wg_da dt_X12_fault 15 rfl) h
    · refine wr_iconst (-1 : Int32) (wg_da dt_X12_fault 14 rfl) (by decide) ?_
      exact wr_iret (wg_da dt_X12_fault 15 rfl) h
theorem m_X12_fault (l : Launch) (E : wg_E) (x0 : Nat) (x1 : Int32) (hx0 : wg_t Sm x0 = 14) (σ : wg_M) (q : Int32 × wg_M) (h : f_X12_fault x0 x1 σ = some q) : wg_MG l E Sm yX12_fault cX12_fault 2 (some .int) rm_X12_fault [.ref x0, .int x1] σ (some q.1) q.2 :=
  wg_met [.ref x0, .int x1] (plainFor_of_name (by decide)) (Nat.le_of_ble_eq_true rfl) (g_X12_fault_e l E x0 x1 σ q hx0 h)
abbrev rm_X12_twoOf : Room := { frames := 0, cells := 0, slots := 0, locals := 0 }
def tb_X12_twoOf : List (Nat × Instr × Nat) := [(0, .iload_n 1, 1), (1, .iconst 2, 1), (2, .if_icmp .ne 7, 3), (5, .iload_n 2, 1), (6, .iload_n 3, 1), (7, .iadd, 1), (8, .ireturn, 1), (9, .iload_n 1, 1), (10, .iconst 3, 1), (11, .if_icmp .ne 7, 3), (14, .iload_n 2, 1), (15, .iload_n 3, 1), (16, .isub, 1), (17, .ireturn, 1), (18, .iload_n 1, 1), (19, .iconst 4, 1), (20, .if_icmp .ne 7, 3), (23, .iload_n 2, 1), (24, .iload_n 3, 1), (25, .imul, 1), (26, .ireturn, 1), (27, .iload_n 1, 1), (28, .iconst 5, 1), (29, .if_icmp .ne 7, 3), (32, .iload_n 2, 1), (33, .iload_n 3, 1), (34, .idiv, 1), (35, .ireturn, 1), (36, .iload_n 1, 1), (37, .bipush 6, 2), (39, .if_icmp .ne 14, 3), (42, .iload_n 2, 1), (43, .iload_n 3, 1), (44, .if_icmp .ge 7, 3), (47, .iconst 1, 1), (48, .goto 4, 3), (51, .iconst 0, 1), (52, .ireturn, 1), (53, .iload_n 1, 1), (54, .bipush 7, 2), (56, .if_icmp .ne 14, 3), (59, .iload_n 2, 1), (60, .iload_n 3, 1), (61, .if_icmp .ne 7, 3), (64, .iconst 1, 1), (65, .goto 4, 3), (68, .iconst 0, 1), (69, .ireturn, 1), (70, .iload_n 1, 1), (71, .bipush 8, 2), (73, .if_icmp .ne 14, 3), (76, .iload_n 2, 1), (77, .iload_n 3, 1), (78, .if_icmp .le 7, 3), (81, .iconst 1, 1), (82, .goto 4, 3), (85, .iconst 0, 1), (86, .ireturn, 1), (87, .iload_n 1, 1), (88, .bipush 10, 2), (90, .if_icmp .ne 9, 3), (93, .iload_n 2, 1), (94, .iload_n 3, 1), (95, .imul, 1), (96, .goto 14, 3), (99, .iload_n 2, 1), (100, .iload_n 3, 1), (101, .iadd, 1), (102, .ifCond .le 7, 3), (105, .iconst 1, 1), (106, .goto 4, 3), (109, .iconst 0, 1), (110, .ireturn, 1)]
theorem dt_X12_twoOf : wg_dc cX12_twoOf tb_X12_twoOf := by unfold wg_dc; decide +kernel
def f_X12_twoOf  (x0 : Nat) (x1 : Int32) (x2 : Int32) (x3 : Int32) (σ : wg_M) : Option (Int32 × wg_M) := if x1 = (2 : Int32) then (some (x2 + x3, σ)) else (if x1 = (3 : Int32) then (some (x2 - x3, σ)) else (if x1 = (4 : Int32) then (some (x2 * x3, σ)) else (if x1 = (5 : Int32) then (wg_dv x2 x3 (fun v1 => some (v1, σ))) else (if x1 = (6 : Int32) then (if x3 ≤ x2 then (some ((0 : Int32), σ)) else (some ((1 : Int32), σ))) else (if x1 = (7 : Int32) then (if x2 = x3 then (some ((1 : Int32), σ)) else (some ((0 : Int32), σ))) else (if x1 = (8 : Int32) then (if x2 ≤ x3 then (some ((0 : Int32), σ)) else (some ((1 : Int32), σ))) else (if x1 = (10 : Int32) then (some (x2 * x3, σ)) else (if (x2 + x3) ≤ 0 then (some ((0 : Int32), σ)) else (some ((1 : Int32), σ))))))))))
set_option maxRecDepth 20000 in
theorem g_X12_twoOf_e (l : Launch) (E : wg_E)  (x0 : Nat) (x1 : Int32) (x2 : Int32) (x3 : Int32) (σ : wg_M) (z : Int32 × wg_M) (hx0 : wg_t Sm x0 = 14) (h : f_X12_twoOf  x0 x1 x2 x3 σ = some z) : wg_G l E Sm "WornWigsModel" cX12_twoOf 4 (some .int) rm_X12_twoOf (some z.1) z.2 0 [some (.ref x0), some (.int x1), some (.int x2), some (.int x3)] [] σ := by
  refine wr_iload_n (wg_da dt_X12_twoOf 0 rfl) rfl ?_
  refine wr_iconst (2 : Int32) (wg_da dt_X12_twoOf 1 rfl) (by decide) ?_
  refine wr_icmp_ne 9 (wg_da dt_X12_twoOf 2 rfl) (by decide) h (fun h => ?_) (fun h => ?_)
  · refine wr_iload_n (wg_da dt_X12_twoOf 3 rfl) rfl ?_
    refine wr_iload_n (wg_da dt_X12_twoOf 4 rfl) rfl ?_
    refine wr_iadd (wg_da dt_X12_twoOf 5 rfl) ?_
    exact wr_iret (wg_da dt_X12_twoOf 6 rfl) h
  · refine wr_iload_n (wg_da dt_X12_twoOf 7 rfl) rfl ?_
    refine wr_iconst (3 : Int32) (wg_da dt_X12_twoOf 8 rfl) (by decide) ?_
    refine wr_icmp_ne 18 (wg_da dt_X12_twoOf 9 rfl) (by decide) h (fun h => ?_) (fun h => ?_)
    · refine wr_iload_n (wg_da dt_X12_twoOf 10 rfl) rfl ?_
      refine wr_iload_n (wg_da dt_X12_twoOf 11 rfl) rfl ?_
      refine wr_isub (wg_da dt_X12_twoOf 12 rfl) ?_
      exact wr_iret (wg_da dt_X12_twoOf 13 rfl) h
    · refine wr_iload_n (wg_da dt_X12_twoOf 14 rfl) rfl ?_
      refine wr_iconst (4 : Int32) (wg_da dt_X12_twoOf 15 rfl) (by decide) ?_
      refine wr_icmp_ne 27 (wg_da dt_X12_twoOf 16 rfl) (by decide) h (fun h => ?_) (fun h => ?_)
      · refine wr_iload_n (wg_da dt_X12_twoOf 17 rfl) rfl ?_
        refine wr_iload_n (wg_da dt_X12_twoOf 18 rfl) rfl ?_
        refine wr_imul (wg_da dt_X12_twoOf 19 rfl) ?_
        exact wr_iret (wg_da dt_X12_twoOf 20 rfl) h
      · refine wr_iload_n (wg_da dt_X12_twoOf 21 rfl) rfl ?_
        refine wr_iconst (5 : Int32) (wg_da dt_X12_twoOf 22 rfl) (by decide) ?_
        refine wr_icmp_ne 36 (wg_da dt_X12_twoOf 23 rfl) (by decide) h (fun h => ?_) (fun h => ?_)
        · refine wr_iload_n (wg_da dt_X12_twoOf 24 rfl) rfl ?_
          refine wr_iload_n (wg_da dt_X12_twoOf 25 rfl) rfl ?_
          refine wr_idiv (wg_da dt_X12_twoOf 26 rfl) h (fun v1 h => ?_)
          exact wr_iret (wg_da dt_X12_twoOf 27 rfl) h
        · refine wr_iload_n (wg_da dt_X12_twoOf 28 rfl) rfl ?_
          refine wr_bipush (6 : Int32) (wg_da dt_X12_twoOf 29 rfl) (by decide) ?_
          refine wr_icmp_ne 53 (wg_da dt_X12_twoOf 30 rfl) (by decide) h (fun h => ?_) (fun h => ?_)
          · refine wr_iload_n (wg_da dt_X12_twoOf 31 rfl) rfl ?_
            refine wr_iload_n (wg_da dt_X12_twoOf 32 rfl) rfl ?_
            refine wr_icmp_ge 51 (wg_da dt_X12_twoOf 33 rfl) (by decide) h (fun h => ?_) (fun h => ?_)
            · refine wr_iconst (0 : Int32) (wg_da dt_X12_twoOf 36 rfl) (by decide) ?_
              exact wr_iret (wg_da dt_X12_twoOf 37 rfl) h
            · refine wr_iconst (1 : Int32) (wg_da dt_X12_twoOf 34 rfl) (by decide) ?_
              refine wr_goto 52 (wg_da dt_X12_twoOf 35 rfl) (by decide) ?_
              exact wr_iret (wg_da dt_X12_twoOf 37 rfl) h
          · refine wr_iload_n (wg_da dt_X12_twoOf 38 rfl) rfl ?_
            refine wr_bipush (7 : Int32) (wg_da dt_X12_twoOf 39 rfl) (by decide) ?_
            refine wr_icmp_ne 70 (wg_da dt_X12_twoOf 40 rfl) (by decide) h (fun h => ?_) (fun h => ?_)
            · refine wr_iload_n (wg_da dt_X12_twoOf 41 rfl) rfl ?_
              refine wr_iload_n (wg_da dt_X12_twoOf 42 rfl) rfl ?_
              refine wr_icmp_ne 68 (wg_da dt_X12_twoOf 43 rfl) (by decide) h (fun h => ?_) (fun h => ?_)
              · refine wr_iconst (1 : Int32) (wg_da dt_X12_twoOf 44 rfl) (by decide) ?_
                refine wr_goto 69 (wg_da dt_X12_twoOf 45 rfl) (by decide) ?_
                exact wr_iret (wg_da dt_X12_twoOf 47 rfl) h
              · refine wr_iconst (0 : Int32) (wg_da dt_X12_twoOf 46 rfl) (by decide) ?_
                exact wr_iret (wg_da dt_X12_twoOf 47 rfl) h
            · refine wr_iload_n (wg_da dt_X12_twoOf 48 rfl) rfl ?_
              refine wr_bipush (8 : Int32) (wg_da dt_X12_twoOf 49 rfl) (by decide) ?_
              refine wr_icmp_ne 87 (wg_da dt_X12_twoOf 50 rfl) (by decide) h (fun h => ?_) (fun h => ?_)
              · refine wr_iload_n (wg_da dt_X12_twoOf 51 rfl) rfl ?_
                refine wr_iload_n (wg_da dt_X12_twoOf 52 rfl) rfl ?_
                refine wr_icmp_le 85 (wg_da dt_X12_twoOf 53 rfl) (by decide) h (fun h => ?_) (fun h => ?_)
                · refine wr_iconst (0 : Int32) (wg_da dt_X12_twoOf 56 rfl) (by decide) ?_
                  exact wr_iret (wg_da dt_X12_twoOf 57 rfl) h
                · refine wr_iconst (1 : Int32) (wg_da dt_X12_twoOf 54 rfl) (by decide) ?_
                  refine wr_goto 86 (wg_da dt_X12_twoOf 55 rfl) (by decide) ?_
                  exact wr_iret (wg_da dt_X12_twoOf 57 rfl) h
              · refine wr_iload_n (wg_da dt_X12_twoOf 58 rfl) rfl ?_
                refine wr_bipush (10 : Int32) (wg_da dt_X12_twoOf 59 rfl) (by decide) ?_
                refine wr_icmp_ne 99 (wg_da dt_X12_twoOf 60 rfl) (by decide) h (fun h => ?_) (fun h => ?_)
                · refine wr_iload_n (wg_da dt_X12_twoOf 61 rfl) rfl ?_
                  refine wr_iload_n (wg_da dt_X12_twoOf 62 rfl) rfl ?_
                  refine wr_imul (wg_da dt_X12_twoOf 63 rfl) ?_
                  refine wr_goto 110 (wg_da dt_X12_twoOf 64 rfl) (by decide) ?_
                  exact wr_iret (wg_da dt_X12_twoOf 72 rfl) h
                · refine wr_iload_n (wg_da dt_X12_twoOf 65 rfl) rfl ?_
                  refine wr_iload_n (wg_da dt_X12_twoOf 66 rfl) rfl ?_
                  refine wr_iadd (wg_da dt_X12_twoOf 67 rfl) ?_
                  refine wr_if_le 109 (wg_da dt_X12_twoOf 68 rfl) (by decide) h (fun h => ?_) (fun h => ?_)
                  · refine wr_iconst (0 : Int32) (wg_da dt_X12_twoOf 71 rfl) (by decide) ?_
                    exact wr_iret (wg_da dt_X12_twoOf 72 rfl) h
                  · refine wr_iconst (1 : Int32) (wg_da dt_X12_twoOf 69 rfl) (by decide) ?_
                    refine wr_goto 110 (wg_da dt_X12_twoOf 70 rfl) (by decide) ?_
                    exact wr_iret (wg_da dt_X12_twoOf 72 rfl) h
theorem m_X12_twoOf (l : Launch) (E : wg_E) (x0 : Nat) (x1 : Int32) (x2 : Int32) (x3 : Int32) (hx0 : wg_t Sm x0 = 14) (σ : wg_M) (q : Int32 × wg_M) (h : f_X12_twoOf x0 x1 x2 x3 σ = some q) : wg_MG l E Sm yX12_twoOf cX12_twoOf 4 (some .int) rm_X12_twoOf [.ref x0, .int x1, .int x2, .int x3] σ (some q.1) q.2 :=
  wg_met [.ref x0, .int x1, .int x2, .int x3] (plainFor_of_name (by decide)) (Nat.le_of_ble_eq_true rfl) (g_X12_twoOf_e l E x0 x1 x2 x3 σ q hx0 h)
abbrev rm_X12_runs : Room := { frames := 1, cells := 0, slots := 0, locals := 23 }
def tb_X12_runs : List (Nat × Instr × Nat) := [(0, .iconst 0, 1), (1, .istore 4, 2), (3, .sipush 400, 3), (6, .iload_n 1, 1), (7, .imul, 1), (8, .iload_n 2, 1), (9, .iadd, 1), (10, .istore 5, 2), (12, .iload 5, 2), (14, .sipush 400, 3), (17, .iload_n 1, 1), (18, .imul, 1), (19, .iload_n 3, 1), (20, .iadd, 1), (21, .if_icmp .ge 155, 3), (24, .aload_n 0, 1), (25, .getfield 55, 3), (28, .iload 5, 2), (30, .iaload, 1), (31, .ifCond .eq 14, 3), (34, .aload_n 0, 1), (35, .getfield 55, 3), (38, .iload 5, 2), (40, .iaload, 1), (41, .iconst 1, 1), (42, .if_icmp .ne 51, 3), (45, .aload_n 0, 1), (46, .getfield 80, 3), (49, .iload 4, 2), (51, .aload_n 0, 1), (52, .getfield 55, 3), (55, .iload 5, 2), (57, .iaload, 1), (58, .ifCond .ne 13, 3), (61, .aload_n 0, 1), (62, .getfield 58, 3), (65, .iload 5, 2), (67, .iaload, 1), (68, .goto 15, 3), (71, .aload_n 0, 1), (72, .getfield 77, 3), (75, .aload_n 0, 1), (76, .getfield 58, 3), (79, .iload 5, 2), (81, .iaload, 1), (82, .iaload, 1), (83, .iastore, 1), (84, .iload 4, 2), (86, .iconst 1, 1), (87, .iadd, 1), (88, .istore 4, 2), (90, .goto 80, 3), (93, .aload_n 0, 1), (94, .getfield 55, 3), (97, .iload 5, 2), (99, .iaload, 1), (100, .bipush 9, 2), (102, .if_icmp .ne 26, 3), (105, .aload_n 0, 1), (106, .getfield 80, 3), (109, .iload 4, 2), (111, .iconst 1, 1), (112, .isub, 1), (113, .iconst 1, 1), (114, .aload_n 0, 1), (115, .getfield 80, 3), (118, .iload 4, 2), (120, .iconst 1, 1), (121, .isub, 1), (122, .iaload, 1), (123, .isub, 1), (124, .iastore, 1), (125, .goto 45, 3), (128, .iload 4, 2), (130, .iconst 1, 1), (131, .isub, 1), (132, .istore 4, 2), (134, .aload_n 0, 1), (135, .getfield 80, 3), (138, .iload 4, 2), (140, .iconst 1, 1), (141, .isub, 1), (142, .aload_n 0, 1), (143, .aload_n 0, 1), (144, .getfield 55, 3), (147, .iload 5, 2), (149, .iaload, 1), (150, .aload_n 0, 1), (151, .getfield 80, 3), (154, .iload 4, 2), (156, .iconst 1, 1), (157, .isub, 1), (158, .iaload, 1), (159, .aload_n 0, 1), (160, .getfield 80, 3), (163, .iload 4, 2), (165, .iaload, 1), (166, .invokevirtual 327, 3), (169, .iastore, 1), (170, .iinc 5 1, 3), (173, .goto (-161), 3), (176, .aload_n 0, 1), (177, .getfield 80, 3), (180, .iconst 0, 1), (181, .iaload, 1), (182, .ireturn, 1)]
theorem dt_X12_runs : wg_dc cX12_runs tb_X12_runs := by unfold wg_dc; decide +kernel
def f_X12_runs_170 (k12 : Nat → Int32 → Int32 → Int32 → Int32 → wg_M → Option (Int32 × wg_M)) (x0 : Nat) (x1 : Int32) (x3 : Int32) (x4 : Int32) (x5 : Int32) (σ : wg_M) : Option (Int32 × wg_M) := wg_let (x5 + (1 : Int32)) (fun v1 => k12 x0 x1 x3 x4 v1 σ)
def f_X12_runs_83 (k12 : Nat → Int32 → Int32 → Int32 → Int32 → wg_M → Option (Int32 × wg_M)) (x0 : Nat) (x1 : Int32) (x3 : Int32) (x4 : Int32) (x5 : Int32) (t0 : Int32) (t1 : Int32) (t2 : Nat) (σ : wg_M) : Option (Int32 × wg_M) := wg_sa (wg_n Sm t2) σ t2 t1 t0 (fun s1 => wg_let (x4 + (1 : Int32)) (fun v2 => f_X12_runs_170 k12 x0 x1 x3 v2 x5 s1))
def f_X12_runs_45 (k12 : Nat → Int32 → Int32 → Int32 → Int32 → wg_M → Option (Int32 × wg_M)) (x0 : Nat) (x1 : Int32) (x3 : Int32) (x4 : Int32) (x5 : Int32) (σ : wg_M) : Option (Int32 × wg_M) := wg_ga (wg_n Sm (wg_r Sm x0 26)) (σ (wg_r Sm x0 26)) x5 (fun v1 => if v1 = 0 then (wg_ga (wg_n Sm (wg_r Sm x0 27)) (σ (wg_r Sm x0 27)) x5 (fun v4 => f_X12_runs_83 k12 x0 x1 x3 x4 x5 v4 x4 (wg_r Sm x0 44) σ)) else (wg_ga (wg_n Sm (wg_r Sm x0 27)) (σ (wg_r Sm x0 27)) x5 (fun v2 => wg_ga (wg_n Sm (wg_r Sm x0 43)) (σ (wg_r Sm x0 43)) v2 (fun v3 => f_X12_runs_83 k12 x0 x1 x3 x4 x5 v3 x4 (wg_r Sm x0 44) σ))))
def f_X12_runs_12  : Nat → Nat → Int32 → Int32 → Int32 → Int32 → wg_M → Option (Int32 × wg_M)
  | 0, _, _, _, _, _, _ => none
  | n + 1, x0, x1, x3, x4, x5, σ => if (((400 : Int32) * x1) + x3) ≤ x5 then (wg_ga (wg_n Sm (wg_r Sm x0 44)) (σ (wg_r Sm x0 44)) (0 : Int32) (fun v1 => some (v1, σ))) else (wg_ga (wg_n Sm (wg_r Sm x0 26)) (σ (wg_r Sm x0 26)) x5 (fun v2 => if v2 = 0 then (f_X12_runs_45 (f_X12_runs_12  n) x0 x1 x3 x4 x5 σ) else (wg_ga (wg_n Sm (wg_r Sm x0 26)) (σ (wg_r Sm x0 26)) x5 (fun v3 => if v3 = (1 : Int32) then (f_X12_runs_45 (f_X12_runs_12  n) x0 x1 x3 x4 x5 σ) else (wg_ga (wg_n Sm (wg_r Sm x0 26)) (σ (wg_r Sm x0 26)) x5 (fun v4 => if v4 = (9 : Int32) then (wg_ga (wg_n Sm (wg_r Sm x0 44)) (σ (wg_r Sm x0 44)) (x4 - (1 : Int32)) (fun v12 => wg_sa (wg_n Sm (wg_r Sm x0 44)) σ (wg_r Sm x0 44) (x4 - (1 : Int32)) ((1 : Int32) - v12) (fun s13 => f_X12_runs_170 (f_X12_runs_12  n) x0 x1 x3 x4 x5 s13))) else (wg_let (x4 - (1 : Int32)) (fun v5 => wg_ga (wg_n Sm (wg_r Sm x0 26)) (σ (wg_r Sm x0 26)) x5 (fun v6 => wg_ga (wg_n Sm (wg_r Sm x0 44)) (σ (wg_r Sm x0 44)) (v5 - (1 : Int32)) (fun v7 => wg_ga (wg_n Sm (wg_r Sm x0 44)) (σ (wg_r Sm x0 44)) v5 (fun v8 => wg_bd (f_X12_twoOf x0 v6 v7 v8 σ) (fun v9 s10 => wg_sa (wg_n Sm (wg_r Sm x0 44)) s10 (wg_r Sm x0 44) (v5 - (1 : Int32)) v9 (fun s11 => f_X12_runs_170 (f_X12_runs_12  n) x0 x1 x3 v5 x5 s11)))))))))))))
def f_X12_runs  (x0 : Nat) (x1 : Int32) (x2 : Int32) (x3 : Int32) (σ : wg_M) : Option (Int32 × wg_M) := wg_let (((400 : Int32) * x1) + x2) (fun v1 => f_X12_runs_12  wg_N x0 x1 x3 (0 : Int32) v1 σ)
set_option maxRecDepth 20000 in
theorem g_X12_runs_170 (l : Launch) (E : wg_E) (k12 : Nat → Int32 → Int32 → Int32 → Int32 → wg_M → Option (Int32 × wg_M)) (x0 : Nat) (x1 : Int32) (x3 : Int32) (x4 : Int32) (x5 : Int32) (σ : wg_M) (z : Int32 × wg_M) (hx0 : wg_t Sm x0 = 14) (hk12 : ∀ (x0 : Nat) (x1 : Int32) (x3 : Int32) (x4 : Int32) (x5 : Int32) (σ : wg_M), wg_t Sm x0 = 14 → k12 x0 x1 x3 x4 x5 σ = some z → wg_G l E Sm "WornWigsModel" cX12_runs 6 (some .int) rm_X12_runs (some z.1) z.2 12 [some (.ref x0), some (.int x1), none, some (.int x3), some (.int x4), some (.int x5)] [] σ) (h : f_X12_runs_170 k12 x0 x1 x3 x4 x5 σ = some z) : wg_G l E Sm "WornWigsModel" cX12_runs 6 (some .int) rm_X12_runs (some z.1) z.2 170 [some (.ref x0), some (.int x1), none, some (.int x3), some (.int x4), some (.int x5)] [] σ := by
  refine wr_iinc (c0 := (1 : Int32)) (wg_da dt_X12_runs 99 rfl) rfl (by decide) (by decide) h (fun v1 h => ?_)
  refine wr_goto 12 (wg_da dt_X12_runs 100 rfl) (by decide) ?_
  exact wr_wk [true, true, false, true, true, true] (hk12 x0 x1 x3 x4 v1 σ hx0 h)
set_option maxRecDepth 20000 in
theorem g_X12_runs_83 (l : Launch) (E : wg_E) (k12 : Nat → Int32 → Int32 → Int32 → Int32 → wg_M → Option (Int32 × wg_M)) (x0 : Nat) (x1 : Int32) (x3 : Int32) (x4 : Int32) (x5 : Int32) (t0 : Int32) (t1 : Int32) (t2 : Nat) (σ : wg_M) (z : Int32 × wg_M) (hx0 : wg_t Sm x0 = 14) (ht2 : wg_t Sm t2 = 0) (hk12 : ∀ (x0 : Nat) (x1 : Int32) (x3 : Int32) (x4 : Int32) (x5 : Int32) (σ : wg_M), wg_t Sm x0 = 14 → k12 x0 x1 x3 x4 x5 σ = some z → wg_G l E Sm "WornWigsModel" cX12_runs 6 (some .int) rm_X12_runs (some z.1) z.2 12 [some (.ref x0), some (.int x1), none, some (.int x3), some (.int x4), some (.int x5)] [] σ) (h : f_X12_runs_83 k12 x0 x1 x3 x4 x5 t0 t1 t2 σ = some z) : wg_G l E Sm "WornWigsModel" cX12_runs 6 (some .int) rm_X12_runs (some z.1) z.2 83 [some (.ref x0), some (.int x1), none, some (.int x3), some (.int x4), some (.int x5)] [.int t0, .int t1, .ref t2] σ := by
  refine wr_iast (wg_da dt_X12_runs 46 rfl) ht2 h (fun s1 h => ?_)
  refine wr_iload (wg_da dt_X12_runs 47 rfl) rfl ?_
  refine wr_iconst (1 : Int32) (wg_da dt_X12_runs 48 rfl) (by decide) ?_
  refine wr_iadd (wg_da dt_X12_runs 49 rfl) ?_
  refine wr_let h (fun v2 h => ?_)
  refine wr_istore (wg_da dt_X12_runs 50 rfl) (by decide) ?_
  refine wr_goto 170 (wg_da dt_X12_runs 51 rfl) (by decide) ?_
  exact wr_wk [true, true, false, true, true, true] (g_X12_runs_170 l E k12 x0 x1 x3 v2 x5 s1 _ hx0 hk12 h)
set_option maxRecDepth 20000 in
theorem g_X12_runs_45 (l : Launch) (E : wg_E) (k12 : Nat → Int32 → Int32 → Int32 → Int32 → wg_M → Option (Int32 × wg_M)) (x0 : Nat) (x1 : Int32) (x3 : Int32) (x4 : Int32) (x5 : Int32) (σ : wg_M) (z : Int32 × wg_M) (hx0 : wg_t Sm x0 = 14) (hk12 : ∀ (x0 : Nat) (x1 : Int32) (x3 : Int32) (x4 : Int32) (x5 : Int32) (σ : wg_M), wg_t Sm x0 = 14 → k12 x0 x1 x3 x4 x5 σ = some z → wg_G l E Sm "WornWigsModel" cX12_runs 6 (some .int) rm_X12_runs (some z.1) z.2 12 [some (.ref x0), some (.int x1), none, some (.int x3), some (.int x4), some (.int x5)] [] σ) (h : f_X12_runs_45 k12 x0 x1 x3 x4 x5 σ = some z) : wg_G l E Sm "WornWigsModel" cX12_runs 6 (some .int) rm_X12_runs (some z.1) z.2 45 [some (.ref x0), some (.int x1), none, some (.int x3), some (.int x4), some (.int x5)] [] σ := by
  refine wr_aload_n (wg_da dt_X12_runs 26 rfl) rfl ?_
  refine wr_getR wf_X12_80 (wg_da dt_X12_runs 27 rfl) hx0 ?_
  refine wr_iload (wg_da dt_X12_runs 28 rfl) rfl ?_
  refine wr_aload_n (wg_da dt_X12_runs 29 rfl) rfl ?_
  refine wr_getR wf_X12_55 (wg_da dt_X12_runs 30 rfl) hx0 ?_
  refine wr_iload (wg_da dt_X12_runs 31 rfl) rfl ?_
  refine wr_iald (wg_da dt_X12_runs 32 rfl) (wg_ty Sm_ok 12 26 0 hx0 rfl (by decide)).2 h (fun v1 h => ?_)
  refine wr_if_ne 71 (wg_da dt_X12_runs 33 rfl) (by decide) h (fun h => ?_) (fun h => ?_)
  · refine wr_aload_n (wg_da dt_X12_runs 34 rfl) rfl ?_
    refine wr_getR wf_X12_58 (wg_da dt_X12_runs 35 rfl) hx0 ?_
    refine wr_iload (wg_da dt_X12_runs 36 rfl) rfl ?_
    refine wr_iald (wg_da dt_X12_runs 37 rfl) (wg_ty Sm_ok 12 27 0 hx0 rfl (by decide)).2 h (fun v4 h => ?_)
    refine wr_goto 83 (wg_da dt_X12_runs 38 rfl) (by decide) ?_
    exact wr_wk [true, true, false, true, true, true] (g_X12_runs_83 l E k12 x0 x1 x3 x4 x5 v4 x4 (wg_r Sm x0 44) σ _ hx0 (wg_ty Sm_ok 12 44 0 hx0 rfl (by decide)).2 hk12 h)
  · refine wr_aload_n (wg_da dt_X12_runs 39 rfl) rfl ?_
    refine wr_getR wf_X12_77 (wg_da dt_X12_runs 40 rfl) hx0 ?_
    refine wr_aload_n (wg_da dt_X12_runs 41 rfl) rfl ?_
    refine wr_getR wf_X12_58 (wg_da dt_X12_runs 42 rfl) hx0 ?_
    refine wr_iload (wg_da dt_X12_runs 43 rfl) rfl ?_
    refine wr_iald (wg_da dt_X12_runs 44 rfl) (wg_ty Sm_ok 12 27 0 hx0 rfl (by decide)).2 h (fun v2 h => ?_)
    refine wr_iald (wg_da dt_X12_runs 45 rfl) (wg_ty Sm_ok 12 43 0 hx0 rfl (by decide)).2 h (fun v3 h => ?_)
    exact wr_wk [true, true, false, true, true, true] (g_X12_runs_83 l E k12 x0 x1 x3 x4 x5 v3 x4 (wg_r Sm x0 44) σ _ hx0 (wg_ty Sm_ok 12 44 0 hx0 rfl (by decide)).2 hk12 h)
set_option maxRecDepth 20000 in
theorem g_X12_runs_12 (l : Launch) (E : wg_E)  (z : Int32 × wg_M) : ∀ (n : Nat) (x0 : Nat) (x1 : Int32) (x3 : Int32) (x4 : Int32) (x5 : Int32) (σ : wg_M) (hx0 : wg_t Sm x0 = 14) (h : f_X12_runs_12  n x0 x1 x3 x4 x5 σ = some z), wg_G l E Sm "WornWigsModel" cX12_runs 6 (some .int) rm_X12_runs (some z.1) z.2 12 [some (.ref x0), some (.int x1), none, some (.int x3), some (.int x4), some (.int x5)] [] σ := by
  intro n
  induction n with
  | zero => intro x0 x1 x3 x4 x5 σ hx0 h; cases h
  | succ n ih =>
    intro x0 x1 x3 x4 x5 σ hx0 h
    refine wr_iload (wg_da dt_X12_runs 8 rfl) rfl ?_
    refine wr_sipush (400 : Int32) (wg_da dt_X12_runs 9 rfl) (by decide) ?_
    refine wr_iload_n (wg_da dt_X12_runs 10 rfl) rfl ?_
    refine wr_imul (wg_da dt_X12_runs 11 rfl) ?_
    refine wr_iload_n (wg_da dt_X12_runs 12 rfl) rfl ?_
    refine wr_iadd (wg_da dt_X12_runs 13 rfl) ?_
    refine wr_icmp_ge 176 (wg_da dt_X12_runs 14 rfl) (by decide) h (fun h => ?_) (fun h => ?_)
    · refine wr_aload_n (wg_da dt_X12_runs 101 rfl) rfl ?_
      refine wr_getR wf_X12_80 (wg_da dt_X12_runs 102 rfl) hx0 ?_
      refine wr_iconst (0 : Int32) (wg_da dt_X12_runs 103 rfl) (by decide) ?_
      refine wr_iald (wg_da dt_X12_runs 104 rfl) (wg_ty Sm_ok 12 44 0 hx0 rfl (by decide)).2 h (fun v1 h => ?_)
      exact wr_iret (wg_da dt_X12_runs 105 rfl) h
    · refine wr_aload_n (wg_da dt_X12_runs 15 rfl) rfl ?_
      refine wr_getR wf_X12_55 (wg_da dt_X12_runs 16 rfl) hx0 ?_
      refine wr_iload (wg_da dt_X12_runs 17 rfl) rfl ?_
      refine wr_iald (wg_da dt_X12_runs 18 rfl) (wg_ty Sm_ok 12 26 0 hx0 rfl (by decide)).2 h (fun v2 h => ?_)
      refine wr_if_eq 45 (wg_da dt_X12_runs 19 rfl) (by decide) h (fun h => ?_) (fun h => ?_)
      · exact wr_wk [true, true, false, true, true, true] (g_X12_runs_45 l E (f_X12_runs_12  n) x0 x1 x3 x4 x5 σ _ hx0 (fun x0 x1 x3 x4 x5 σ hx0 h => ih x0 x1 x3 x4 x5 σ hx0 h) h)
      · refine wr_aload_n (wg_da dt_X12_runs 20 rfl) rfl ?_
        refine wr_getR wf_X12_55 (wg_da dt_X12_runs 21 rfl) hx0 ?_
        refine wr_iload (wg_da dt_X12_runs 22 rfl) rfl ?_
        refine wr_iald (wg_da dt_X12_runs 23 rfl) (wg_ty Sm_ok 12 26 0 hx0 rfl (by decide)).2 h (fun v3 h => ?_)
        refine wr_iconst (1 : Int32) (wg_da dt_X12_runs 24 rfl) (by decide) ?_
        refine wr_icmp_ne 93 (wg_da dt_X12_runs 25 rfl) (by decide) h (fun h => ?_) (fun h => ?_)
        · exact wr_wk [true, true, false, true, true, true] (g_X12_runs_45 l E (f_X12_runs_12  n) x0 x1 x3 x4 x5 σ _ hx0 (fun x0 x1 x3 x4 x5 σ hx0 h => ih x0 x1 x3 x4 x5 σ hx0 h) h)
        · refine wr_aload_n (wg_da dt_X12_runs 52 rfl) rfl ?_
          refine wr_getR wf_X12_55 (wg_da dt_X12_runs 53 rfl) hx0 ?_
          refine wr_iload (wg_da dt_X12_runs 54 rfl) rfl ?_
          refine wr_iald (wg_da dt_X12_runs 55 rfl) (wg_ty Sm_ok 12 26 0 hx0 rfl (by decide)).2 h (fun v4 h => ?_)
          refine wr_bipush (9 : Int32) (wg_da dt_X12_runs 56 rfl) (by decide) ?_
          refine wr_icmp_ne 128 (wg_da dt_X12_runs 57 rfl) (by decide) h (fun h => ?_) (fun h => ?_)
          · refine wr_aload_n (wg_da dt_X12_runs 58 rfl) rfl ?_
            refine wr_getR wf_X12_80 (wg_da dt_X12_runs 59 rfl) hx0 ?_
            refine wr_iload (wg_da dt_X12_runs 60 rfl) rfl ?_
            refine wr_iconst (1 : Int32) (wg_da dt_X12_runs 61 rfl) (by decide) ?_
            refine wr_isub (wg_da dt_X12_runs 62 rfl) ?_
            refine wr_iconst (1 : Int32) (wg_da dt_X12_runs 63 rfl) (by decide) ?_
            refine wr_aload_n (wg_da dt_X12_runs 64 rfl) rfl ?_
            refine wr_getR wf_X12_80 (wg_da dt_X12_runs 65 rfl) hx0 ?_
            refine wr_iload (wg_da dt_X12_runs 66 rfl) rfl ?_
            refine wr_iconst (1 : Int32) (wg_da dt_X12_runs 67 rfl) (by decide) ?_
            refine wr_isub (wg_da dt_X12_runs 68 rfl) ?_
            refine wr_iald (wg_da dt_X12_runs 69 rfl) (wg_ty Sm_ok 12 44 0 hx0 rfl (by decide)).2 h (fun v12 h => ?_)
            refine wr_isub (wg_da dt_X12_runs 70 rfl) ?_
            refine wr_iast (wg_da dt_X12_runs 71 rfl) (wg_ty Sm_ok 12 44 0 hx0 rfl (by decide)).2 h (fun s13 h => ?_)
            refine wr_goto 170 (wg_da dt_X12_runs 72 rfl) (by decide) ?_
            exact wr_wk [true, true, false, true, true, true] (g_X12_runs_170 l E (f_X12_runs_12  n) x0 x1 x3 x4 x5 s13 _ hx0 (fun x0 x1 x3 x4 x5 σ hx0 h => ih x0 x1 x3 x4 x5 σ hx0 h) h)
          · refine wr_iload (wg_da dt_X12_runs 73 rfl) rfl ?_
            refine wr_iconst (1 : Int32) (wg_da dt_X12_runs 74 rfl) (by decide) ?_
            refine wr_isub (wg_da dt_X12_runs 75 rfl) ?_
            refine wr_let h (fun v5 h => ?_)
            refine wr_istore (wg_da dt_X12_runs 76 rfl) (by decide) ?_
            refine wr_aload_n (wg_da dt_X12_runs 77 rfl) rfl ?_
            refine wr_getR wf_X12_80 (wg_da dt_X12_runs 78 rfl) hx0 ?_
            refine wr_iload (wg_da dt_X12_runs 79 rfl) rfl ?_
            refine wr_iconst (1 : Int32) (wg_da dt_X12_runs 80 rfl) (by decide) ?_
            refine wr_isub (wg_da dt_X12_runs 81 rfl) ?_
            refine wr_aload_n (wg_da dt_X12_runs 82 rfl) rfl ?_
            refine wr_aload_n (wg_da dt_X12_runs 83 rfl) rfl ?_
            refine wr_getR wf_X12_55 (wg_da dt_X12_runs 84 rfl) hx0 ?_
            refine wr_iload (wg_da dt_X12_runs 85 rfl) rfl ?_
            refine wr_iald (wg_da dt_X12_runs 86 rfl) (wg_ty Sm_ok 12 26 0 hx0 rfl (by decide)).2 h (fun v6 h => ?_)
            refine wr_aload_n (wg_da dt_X12_runs 87 rfl) rfl ?_
            refine wr_getR wf_X12_80 (wg_da dt_X12_runs 88 rfl) hx0 ?_
            refine wr_iload (wg_da dt_X12_runs 89 rfl) rfl ?_
            refine wr_iconst (1 : Int32) (wg_da dt_X12_runs 90 rfl) (by decide) ?_
            refine wr_isub (wg_da dt_X12_runs 91 rfl) ?_
            refine wr_iald (wg_da dt_X12_runs 92 rfl) (wg_ty Sm_ok 12 44 0 hx0 rfl (by decide)).2 h (fun v7 h => ?_)
            refine wr_aload_n (wg_da dt_X12_runs 93 rfl) rfl ?_
            refine wr_getR wf_X12_80 (wg_da dt_X12_runs 94 rfl) hx0 ?_
            refine wr_iload (wg_da dt_X12_runs 95 rfl) rfl ?_
            refine wr_iald (wg_da dt_X12_runs 96 rfl) (wg_ty Sm_ok 12 44 0 hx0 rfl (by decide)).2 h (fun v8 h => ?_)
            refine wr_callVi [.int v6, .int v7, .int v8] [.int (v5 - (1 : Int32)), .ref (wg_r Sm x0 44)] (wg_da dt_X12_runs 97 rfl) ⟨wq_8_102, wq_8_104, wq_p7_11⟩ hx0 ⟨rfl, by decide⟩ wy_X12_twoOf (fun q hq => m_X12_twoOf l E x0 v6 v7 v8 hx0 _ q hq) rfl rfl (Nat.le_of_ble_eq_true rfl) ⟨rfl, rfl, by decide, by decide⟩ h (fun v9 s10 h => ?_)
            refine wr_iast (wg_da dt_X12_runs 98 rfl) (wg_ty Sm_ok 12 44 0 hx0 rfl (by decide)).2 h (fun s11 h => ?_)
            exact wr_wk [true, true, false, true, true, true] (g_X12_runs_170 l E (f_X12_runs_12  n) x0 x1 x3 v5 x5 s11 _ hx0 (fun x0 x1 x3 x4 x5 σ hx0 h => ih x0 x1 x3 x4 x5 σ hx0 h) h)
set_option maxRecDepth 20000 in
theorem g_X12_runs_e (l : Launch) (E : wg_E)  (x0 : Nat) (x1 : Int32) (x2 : Int32) (x3 : Int32) (σ : wg_M) (z : Int32 × wg_M) (hx0 : wg_t Sm x0 = 14) (h : f_X12_runs  x0 x1 x2 x3 σ = some z) : wg_G l E Sm "WornWigsModel" cX12_runs 6 (some .int) rm_X12_runs (some z.1) z.2 0 [some (.ref x0), some (.int x1), some (.int x2), some (.int x3), none, none] [] σ := by
  refine wr_iconst (0 : Int32) (wg_da dt_X12_runs 0 rfl) (by decide) ?_
  refine wr_istore (wg_da dt_X12_runs 1 rfl) (by decide) ?_
  refine wr_sipush (400 : Int32) (wg_da dt_X12_runs 2 rfl) (by decide) ?_
  refine wr_iload_n (wg_da dt_X12_runs 3 rfl) rfl ?_
  refine wr_imul (wg_da dt_X12_runs 4 rfl) ?_
  refine wr_iload_n (wg_da dt_X12_runs 5 rfl) rfl ?_
  refine wr_iadd (wg_da dt_X12_runs 6 rfl) ?_
  refine wr_let h (fun v1 h => ?_)
  refine wr_istore (wg_da dt_X12_runs 7 rfl) (by decide) ?_
  exact wr_wk [true, true, false, true, true, true] (g_X12_runs_12 l E  _  wg_N x0 x1 x3 (0 : Int32) v1 σ hx0 h)
theorem m_X12_runs (l : Launch) (E : wg_E) (x0 : Nat) (x1 : Int32) (x2 : Int32) (x3 : Int32) (hx0 : wg_t Sm x0 = 14) (σ : wg_M) (q : Int32 × wg_M) (h : f_X12_runs x0 x1 x2 x3 σ = some q) : wg_MG l E Sm yX12_runs cX12_runs 6 (some .int) rm_X12_runs [.ref x0, .int x1, .int x2, .int x3] σ (some q.1) q.2 :=
  wg_met [.ref x0, .int x1, .int x2, .int x3] (plainFor_of_name (by decide)) (Nat.le_of_ble_eq_true rfl) (g_X12_runs_e l E x0 x1 x2 x3 σ q hx0 h)
abbrev rm_X12_lineOf : Room := { frames := 2, cells := 0, slots := 0, locals := 48 }
def tb_X12_lineOf : List (Nat × Instr × Nat) := [(0, .iconst 0, 1), (1, .istore_n 2, 1), (2, .iload_n 2, 1), (3, .aload_n 0, 1), (4, .getfield 40, 3), (7, .iconst 0, 1), (8, .iaload, 1), (9, .if_icmp .ge 56, 3), (12, .aload_n 0, 1), (13, .getfield 43, 3), (16, .iload_n 2, 1), (17, .iaload, 1), (18, .iload_n 1, 1), (19, .if_icmp .ne 40, 3), (22, .aload_n 0, 1), (23, .getfield 49, 3), (26, .iload_n 2, 1), (27, .iaload, 1), (28, .aload_n 0, 1), (29, .getfield 52, 3), (32, .iload_n 2, 1), (33, .iaload, 1), (34, .if_icmp .eq 23, 3), (37, .aload_n 0, 1), (38, .iconst 0, 1), (39, .aload_n 0, 1), (40, .getfield 49, 3), (43, .iload_n 2, 1), (44, .iaload, 1), (45, .aload_n 0, 1), (46, .getfield 52, 3), (49, .iload_n 2, 1), (50, .iaload, 1), (51, .invokevirtual 330, 3), (54, .ifCond .eq 5, 3), (57, .iload_n 2, 1), (58, .ireturn, 1), (59, .iinc 2 1, 3), (62, .goto (-60), 3), (65, .iconst (-1), 1), (66, .ireturn, 1)]
theorem dt_X12_lineOf : wg_dc cX12_lineOf tb_X12_lineOf := by unfold wg_dc; decide +kernel
def f_X12_lineOf_59 (k2 : Nat → Int32 → Int32 → wg_M → Option (Int32 × wg_M)) (x0 : Nat) (x1 : Int32) (x2 : Int32) (σ : wg_M) : Option (Int32 × wg_M) := wg_let (x2 + (1 : Int32)) (fun v1 => k2 x0 x1 v1 σ)
def f_X12_lineOf_2  : Nat → Nat → Int32 → Int32 → wg_M → Option (Int32 × wg_M)
  | 0, _, _, _, _ => none
  | n + 1, x0, x1, x2, σ => wg_ga (wg_n Sm (wg_r Sm x0 21)) (σ (wg_r Sm x0 21)) (0 : Int32) (fun v1 => if v1 ≤ x2 then (some ((-1 : Int32), σ)) else (wg_ga (wg_n Sm (wg_r Sm x0 22)) (σ (wg_r Sm x0 22)) x2 (fun v2 => if v2 = x1 then (wg_ga (wg_n Sm (wg_r Sm x0 24)) (σ (wg_r Sm x0 24)) x2 (fun v3 => wg_ga (wg_n Sm (wg_r Sm x0 25)) (σ (wg_r Sm x0 25)) x2 (fun v4 => if v3 = v4 then (some (x2, σ)) else (wg_ga (wg_n Sm (wg_r Sm x0 24)) (σ (wg_r Sm x0 24)) x2 (fun v5 => wg_ga (wg_n Sm (wg_r Sm x0 25)) (σ (wg_r Sm x0 25)) x2 (fun v6 => wg_bd (f_X12_runs x0 (0 : Int32) v5 v6 σ) (fun v7 s8 => if v7 = 0 then (f_X12_lineOf_59 (f_X12_lineOf_2  n) x0 x1 x2 s8) else (some (x2, s8))))))))) else (f_X12_lineOf_59 (f_X12_lineOf_2  n) x0 x1 x2 σ))))
def f_X12_lineOf  (x0 : Nat) (x1 : Int32) (σ : wg_M) : Option (Int32 × wg_M) := f_X12_lineOf_2  wg_N x0 x1 (0 : Int32) σ
set_option maxRecDepth 20000 in
theorem g_X12_lineOf_59 (l : Launch) (E : wg_E) (k2 : Nat → Int32 → Int32 → wg_M → Option (Int32 × wg_M)) (x0 : Nat) (x1 : Int32) (x2 : Int32) (σ : wg_M) (z : Int32 × wg_M) (hx0 : wg_t Sm x0 = 14) (hk2 : ∀ (x0 : Nat) (x1 : Int32) (x2 : Int32) (σ : wg_M), wg_t Sm x0 = 14 → k2 x0 x1 x2 σ = some z → wg_G l E Sm "WornWigsModel" cX12_lineOf 3 (some .int) rm_X12_lineOf (some z.1) z.2 2 [some (.ref x0), some (.int x1), some (.int x2)] [] σ) (h : f_X12_lineOf_59 k2 x0 x1 x2 σ = some z) : wg_G l E Sm "WornWigsModel" cX12_lineOf 3 (some .int) rm_X12_lineOf (some z.1) z.2 59 [some (.ref x0), some (.int x1), some (.int x2)] [] σ := by
  refine wr_iinc (c0 := (1 : Int32)) (wg_da dt_X12_lineOf 37 rfl) rfl (by decide) (by decide) h (fun v1 h => ?_)
  refine wr_goto 2 (wg_da dt_X12_lineOf 38 rfl) (by decide) ?_
  exact wr_wk [true, true, true] (hk2 x0 x1 v1 σ hx0 h)
set_option maxRecDepth 20000 in
theorem g_X12_lineOf_2 (l : Launch) (E : wg_E)  (z : Int32 × wg_M) : ∀ (n : Nat) (x0 : Nat) (x1 : Int32) (x2 : Int32) (σ : wg_M) (hx0 : wg_t Sm x0 = 14) (h : f_X12_lineOf_2  n x0 x1 x2 σ = some z), wg_G l E Sm "WornWigsModel" cX12_lineOf 3 (some .int) rm_X12_lineOf (some z.1) z.2 2 [some (.ref x0), some (.int x1), some (.int x2)] [] σ := by
  intro n
  induction n with
  | zero => intro x0 x1 x2 σ hx0 h; cases h
  | succ n ih =>
    intro x0 x1 x2 σ hx0 h
    refine wr_iload_n (wg_da dt_X12_lineOf 2 rfl) rfl ?_
    refine wr_aload_n (wg_da dt_X12_lineOf 3 rfl) rfl ?_
    refine wr_getR wf_X12_40 (wg_da dt_X12_lineOf 4 rfl) hx0 ?_
    refine wr_iconst (0 : Int32) (wg_da dt_X12_lineOf 5 rfl) (by decide) ?_
    refine wr_iald (wg_da dt_X12_lineOf 6 rfl) (wg_ty Sm_ok 12 21 0 hx0 rfl (by decide)).2 h (fun v1 h => ?_)
    refine wr_icmp_ge 65 (wg_da dt_X12_lineOf 7 rfl) (by decide) h (fun h => ?_) (fun h => ?_)
    · refine wr_iconst (-1 : Int32) (wg_da dt_X12_lineOf 39 rfl) (by decide) ?_
      exact wr_iret (wg_da dt_X12_lineOf 40 rfl) h
    · refine wr_aload_n (wg_da dt_X12_lineOf 8 rfl) rfl ?_
      refine wr_getR wf_X12_43 (wg_da dt_X12_lineOf 9 rfl) hx0 ?_
      refine wr_iload_n (wg_da dt_X12_lineOf 10 rfl) rfl ?_
      refine wr_iald (wg_da dt_X12_lineOf 11 rfl) (wg_ty Sm_ok 12 22 0 hx0 rfl (by decide)).2 h (fun v2 h => ?_)
      refine wr_iload_n (wg_da dt_X12_lineOf 12 rfl) rfl ?_
      refine wr_icmp_ne 59 (wg_da dt_X12_lineOf 13 rfl) (by decide) h (fun h => ?_) (fun h => ?_)
      · refine wr_aload_n (wg_da dt_X12_lineOf 14 rfl) rfl ?_
        refine wr_getR wf_X12_49 (wg_da dt_X12_lineOf 15 rfl) hx0 ?_
        refine wr_iload_n (wg_da dt_X12_lineOf 16 rfl) rfl ?_
        refine wr_iald (wg_da dt_X12_lineOf 17 rfl) (wg_ty Sm_ok 12 24 0 hx0 rfl (by decide)).2 h (fun v3 h => ?_)
        refine wr_aload_n (wg_da dt_X12_lineOf 18 rfl) rfl ?_
        refine wr_getR wf_X12_52 (wg_da dt_X12_lineOf 19 rfl) hx0 ?_
        refine wr_iload_n (wg_da dt_X12_lineOf 20 rfl) rfl ?_
        refine wr_iald (wg_da dt_X12_lineOf 21 rfl) (wg_ty Sm_ok 12 25 0 hx0 rfl (by decide)).2 h (fun v4 h => ?_)
        refine wr_icmp_eq 57 (wg_da dt_X12_lineOf 22 rfl) (by decide) h (fun h => ?_) (fun h => ?_)
        · refine wr_iload_n (wg_da dt_X12_lineOf 35 rfl) rfl ?_
          exact wr_iret (wg_da dt_X12_lineOf 36 rfl) h
        · refine wr_aload_n (wg_da dt_X12_lineOf 23 rfl) rfl ?_
          refine wr_iconst (0 : Int32) (wg_da dt_X12_lineOf 24 rfl) (by decide) ?_
          refine wr_aload_n (wg_da dt_X12_lineOf 25 rfl) rfl ?_
          refine wr_getR wf_X12_49 (wg_da dt_X12_lineOf 26 rfl) hx0 ?_
          refine wr_iload_n (wg_da dt_X12_lineOf 27 rfl) rfl ?_
          refine wr_iald (wg_da dt_X12_lineOf 28 rfl) (wg_ty Sm_ok 12 24 0 hx0 rfl (by decide)).2 h (fun v5 h => ?_)
          refine wr_aload_n (wg_da dt_X12_lineOf 29 rfl) rfl ?_
          refine wr_getR wf_X12_52 (wg_da dt_X12_lineOf 30 rfl) hx0 ?_
          refine wr_iload_n (wg_da dt_X12_lineOf 31 rfl) rfl ?_
          refine wr_iald (wg_da dt_X12_lineOf 32 rfl) (wg_ty Sm_ok 12 25 0 hx0 rfl (by decide)).2 h (fun v6 h => ?_)
          refine wr_callVi [.int (0 : Int32), .int v5, .int v6] [] (wg_da dt_X12_lineOf 33 rfl) ⟨wq_8_98, wq_8_100, wq_p7_10⟩ hx0 ⟨rfl, by decide⟩ wy_X12_runs (fun q hq => m_X12_runs l E x0 (0 : Int32) v5 v6 hx0 _ q hq) rfl rfl (Nat.le_of_ble_eq_true rfl) ⟨rfl, rfl, by decide, by decide⟩ h (fun v7 s8 h => ?_)
          refine wr_if_eq 59 (wg_da dt_X12_lineOf 34 rfl) (by decide) h (fun h => ?_) (fun h => ?_)
          · exact wr_wk [true, true, true] (g_X12_lineOf_59 l E (f_X12_lineOf_2  n) x0 x1 x2 s8 _ hx0 (fun x0 x1 x2 σ hx0 h => ih x0 x1 x2 σ hx0 h) h)
          · refine wr_iload_n (wg_da dt_X12_lineOf 35 rfl) rfl ?_
            exact wr_iret (wg_da dt_X12_lineOf 36 rfl) h
      · exact wr_wk [true, true, true] (g_X12_lineOf_59 l E (f_X12_lineOf_2  n) x0 x1 x2 σ _ hx0 (fun x0 x1 x2 σ hx0 h => ih x0 x1 x2 σ hx0 h) h)
set_option maxRecDepth 20000 in
theorem g_X12_lineOf_e (l : Launch) (E : wg_E)  (x0 : Nat) (x1 : Int32) (σ : wg_M) (z : Int32 × wg_M) (hx0 : wg_t Sm x0 = 14) (h : f_X12_lineOf  x0 x1 σ = some z) : wg_G l E Sm "WornWigsModel" cX12_lineOf 3 (some .int) rm_X12_lineOf (some z.1) z.2 0 [some (.ref x0), some (.int x1), none] [] σ := by
  refine wr_iconst (0 : Int32) (wg_da dt_X12_lineOf 0 rfl) (by decide) ?_
  refine wr_istore_n (wg_da dt_X12_lineOf 1 rfl) (by decide) ?_
  exact wr_wk [true, true, true] (g_X12_lineOf_2 l E  _  wg_N x0 x1 (0 : Int32) σ hx0 h)
theorem m_X12_lineOf (l : Launch) (E : wg_E) (x0 : Nat) (x1 : Int32) (hx0 : wg_t Sm x0 = 14) (σ : wg_M) (q : Int32 × wg_M) (h : f_X12_lineOf x0 x1 σ = some q) : wg_MG l E Sm yX12_lineOf cX12_lineOf 3 (some .int) rm_X12_lineOf [.ref x0, .int x1] σ (some q.1) q.2 :=
  wg_met [.ref x0, .int x1] (plainFor_of_name (by decide)) (Nat.le_of_ble_eq_true rfl) (g_X12_lineOf_e l E x0 x1 σ q hx0 h)

abbrev rm_X6_isSpelt : Room := { frames := 4, cells := 0, slots := 0, locals := 85 }
def tb_X6_isSpelt : List (Nat × Instr × Nat) := [(0, .iload_n 1, 1), (1, .istore 4, 2), (3, .iload 4, 2), (5, .iload_n 2, 1), (6, .if_icmp .ge 32, 3), (9, .aload_n 0, 1), (10, .getfield 9, 3), (13, .iload 4, 2), (15, .iaload, 1), (16, .ldc 88, 2), (18, .iload_n 3, 1), (19, .iload 4, 2), (21, .iadd, 1), (22, .iload_n 1, 1), (23, .isub, 1), (24, .invokevirtual 95, 3), (27, .if_icmp .eq 5, 3), (30, .iconst 0, 1), (31, .ireturn, 1), (32, .iinc 4 1, 3), (35, .goto (-32), 3), (38, .iconst 1, 1), (39, .ireturn, 1)]
theorem dt_X6_isSpelt : wg_dc cX6_isSpelt tb_X6_isSpelt := by unfold wg_dc; decide +kernel
def f_X6_isSpelt_3  : Nat → Nat → Int32 → Int32 → Int32 → Int32 → wg_M → Option (Int32 × wg_M)
  | 0, _, _, _, _, _, _ => none
  | n + 1, x0, x1, x2, x3, x4, σ => if x2 ≤ x4 then (some ((1 : Int32), σ)) else (wg_ga (wg_n Sc (wg_r Sc x0 1)) (σ (wg_r Sc x0 1)) x4 (fun v1 => wg_bd (f_J0_charAt_5068e ((x3 + x4) - x1) σ) (fun v2 s3 => if v1 = v2 then (wg_let (x4 + (1 : Int32)) (fun v4 => f_X6_isSpelt_3  n x0 x1 x2 x3 v4 s3)) else (some ((0 : Int32), s3)))))
def f_X6_isSpelt  (x0 : Nat) (x1 : Int32) (x2 : Int32) (x3 : Int32) (σ : wg_M) : Option (Int32 × wg_M) := f_X6_isSpelt_3  wg_N x0 x1 x2 x3 x1 σ
set_option maxRecDepth 20000 in
theorem g_X6_isSpelt_3 (l : Launch) (E : wg_E) (hE : wg_sx E Sc)  (z : Int32 × wg_M) : ∀ (n : Nat) (x0 : Nat) (x1 : Int32) (x2 : Int32) (x3 : Int32) (x4 : Int32) (σ : wg_M) (hx0 : wg_t Sc x0 = 8) (h : f_X6_isSpelt_3  n x0 x1 x2 x3 x4 σ = some z), wg_G l E Sc "WornWigs$Reader" cX6_isSpelt 5 (some .boolean) rm_X6_isSpelt (some z.1) z.2 3 [some (.ref x0), some (.int x1), some (.int x2), some (.int x3), some (.int x4)] [] σ := by
  intro n
  induction n with
  | zero => intro x0 x1 x2 x3 x4 σ hx0 h; cases h
  | succ n ih =>
    intro x0 x1 x2 x3 x4 σ hx0 h
    refine wr_iload (wg_da dt_X6_isSpelt 2 rfl) rfl ?_
    refine wr_iload_n (wg_da dt_X6_isSpelt 3 rfl) rfl ?_
    refine wr_icmp_ge 38 (wg_da dt_X6_isSpelt 4 rfl) (by decide) h (fun h => ?_) (fun h => ?_)
    · refine wr_iconst (1 : Int32) (wg_da dt_X6_isSpelt 21 rfl) (by decide) ?_
      exact wr_zret1 (wg_da dt_X6_isSpelt 22 rfl) h
    · refine wr_aload_n (wg_da dt_X6_isSpelt 5 rfl) rfl ?_
      refine wr_getR wf_X6_9 (wg_da dt_X6_isSpelt 6 rfl) hx0 ?_
      refine wr_iload (wg_da dt_X6_isSpelt 7 rfl) rfl ?_
      refine wr_iald (wg_da dt_X6_isSpelt 8 rfl) (wg_ty Sc_ok 6 1 0 hx0 rfl (by decide)).2 h (fun v1 h => ?_)
      refine wr_ldcs hE rfl (wg_da dt_X6_isSpelt 9 rfl) ?_
      refine wr_iload_n (wg_da dt_X6_isSpelt 10 rfl) rfl ?_
      refine wr_iload (wg_da dt_X6_isSpelt 11 rfl) rfl ?_
      refine wr_iadd (wg_da dt_X6_isSpelt 12 rfl) ?_
      refine wr_iload_n (wg_da dt_X6_isSpelt 13 rfl) rfl ?_
      refine wr_isub (wg_da dt_X6_isSpelt 14 rfl) ?_
      refine wr_callT [.int ((x3 + x4) - x1)] [.int v1] hE (wg_da dt_X6_isSpelt 15 rfl) ⟨wq_4_108, wq_4_109, wq_4_110⟩ rfl wy_J0_charAt_5068e (fun q hq => m_J0_charAt_5068e l E hE ((x3 + x4) - x1) _ q hq) rfl rfl (Nat.le_of_ble_eq_true rfl) ⟨rfl, rfl, by decide, by decide⟩ h (fun v2 s3 h => ?_)
      refine wr_icmp_eq 32 (wg_da dt_X6_isSpelt 16 rfl) (by decide) h (fun h => ?_) (fun h => ?_)
      · refine wr_iinc (c0 := (1 : Int32)) (wg_da dt_X6_isSpelt 19 rfl) rfl (by decide) (by decide) h (fun v4 h => ?_)
        refine wr_goto 3 (wg_da dt_X6_isSpelt 20 rfl) (by decide) ?_
        exact wr_wk [true, true, true, true, true] (ih x0 x1 x2 x3 v4 s3 hx0 h)
      · refine wr_iconst (0 : Int32) (wg_da dt_X6_isSpelt 17 rfl) (by decide) ?_
        exact wr_zret0 (wg_da dt_X6_isSpelt 18 rfl) h
set_option maxRecDepth 20000 in
theorem g_X6_isSpelt_e (l : Launch) (E : wg_E) (hE : wg_sx E Sc)  (x0 : Nat) (x1 : Int32) (x2 : Int32) (x3 : Int32) (σ : wg_M) (z : Int32 × wg_M) (hx0 : wg_t Sc x0 = 8) (h : f_X6_isSpelt  x0 x1 x2 x3 σ = some z) : wg_G l E Sc "WornWigs$Reader" cX6_isSpelt 5 (some .boolean) rm_X6_isSpelt (some z.1) z.2 0 [some (.ref x0), some (.int x1), some (.int x2), some (.int x3), none] [] σ := by
  refine wr_iload_n (wg_da dt_X6_isSpelt 0 rfl) rfl ?_
  refine wr_istore (wg_da dt_X6_isSpelt 1 rfl) (by decide) ?_
  exact wr_wk [true, true, true, true, true] (g_X6_isSpelt_3 l E hE  _  wg_N x0 x1 x2 x3 x1 σ hx0 h)
theorem m_X6_isSpelt (l : Launch) (E : wg_E) (hE : wg_sx E Sc) (x0 : Nat) (x1 : Int32) (x2 : Int32) (x3 : Int32) (hx0 : wg_t Sc x0 = 8) (σ : wg_M) (q : Int32 × wg_M) (h : f_X6_isSpelt x0 x1 x2 x3 σ = some q) : wg_MG l E Sc yX6_isSpelt cX6_isSpelt 5 (some .boolean) rm_X6_isSpelt [.ref x0, .int x1, .int x2, .int x3] σ (some q.1) q.2 :=
  wg_met [.ref x0, .int x1, .int x2, .int x3] (plainFor_of_name (by decide)) (Nat.le_of_ble_eq_true rfl) (g_X6_isSpelt_e l E hE x0 x1 x2 x3 σ q hx0 h)
abbrev rm_X6_wordAt : Room := { frames := 5, cells := 0, slots := 0, locals := 109 }
def tb_X6_wordAt : List (Nat × Instr × Nat) := [(0, .sipush 256, 3), (3, .istore_n 3, 1), (4, .iconst 0, 1), (5, .istore 4, 2), (7, .iconst 0, 1), (8, .istore 5, 2), (10, .iload 5, 2), (12, .ldc 88, 2), (14, .invokevirtual 90, 3), (17, .if_icmp .ge 54, 3), (20, .ldc 88, 2), (22, .iload 5, 2), (24, .invokevirtual 95, 3), (27, .bipush 32, 2), (29, .if_icmp .ne 36, 3), (32, .iload 5, 2), (34, .iload 4, 2), (36, .isub, 1), (37, .iload_n 2, 1), (38, .iload_n 1, 1), (39, .isub, 1), (40, .if_icmp .ne 16, 3), (43, .aload_n 0, 1), (44, .iload_n 1, 1), (45, .iload_n 2, 1), (46, .iload 4, 2), (48, .invokevirtual 99, 3), (51, .ifCond .eq 5, 3), (54, .iload_n 3, 1), (55, .ireturn, 1), (56, .iinc 3 1, 3), (59, .iload 5, 2), (61, .iconst 1, 1), (62, .iadd, 1), (63, .istore 4, 2), (65, .iinc 5 1, 3), (68, .goto (-58), 3), (71, .iconst 0, 1), (72, .ireturn, 1)]
theorem dt_X6_wordAt : wg_dc cX6_wordAt tb_X6_wordAt := by unfold wg_dc; decide +kernel
def f_X6_wordAt_65 (k10 : Nat → Int32 → Int32 → Int32 → Int32 → Int32 → wg_M → Option (Int32 × wg_M)) (x0 : Nat) (x1 : Int32) (x2 : Int32) (x3 : Int32) (x4 : Int32) (x5 : Int32) (σ : wg_M) : Option (Int32 × wg_M) := wg_let (x5 + (1 : Int32)) (fun v1 => k10 x0 x1 x2 x3 x4 v1 σ)
def f_X6_wordAt_56 (k10 : Nat → Int32 → Int32 → Int32 → Int32 → Int32 → wg_M → Option (Int32 × wg_M)) (x0 : Nat) (x1 : Int32) (x2 : Int32) (x3 : Int32) (x5 : Int32) (σ : wg_M) : Option (Int32 × wg_M) := wg_let (x3 + (1 : Int32)) (fun v1 => wg_let (x5 + (1 : Int32)) (fun v2 => f_X6_wordAt_65 k10 x0 x1 x2 v1 v2 x5 σ))
def f_X6_wordAt_10  : Nat → Nat → Int32 → Int32 → Int32 → Int32 → Int32 → wg_M → Option (Int32 × wg_M)
  | 0, _, _, _, _, _, _, _ => none
  | n + 1, x0, x1, x2, x3, x4, x5, σ => wg_bd (f_J0_length_8abf5  σ) (fun v1 s2 => if v1 ≤ x5 then (some ((0 : Int32), s2)) else (wg_bd (f_J0_charAt_5068e x5 s2) (fun v3 s4 => if v3 = (32 : Int32) then (if (x5 - x4) = (x2 - x1) then (wg_bd (f_X6_isSpelt x0 x1 x2 x4 s4) (fun v5 s6 => if v5 = 0 then (f_X6_wordAt_56 (f_X6_wordAt_10  n) x0 x1 x2 x3 x5 s6) else (some (x3, s6)))) else (f_X6_wordAt_56 (f_X6_wordAt_10  n) x0 x1 x2 x3 x5 s4)) else (f_X6_wordAt_65 (f_X6_wordAt_10  n) x0 x1 x2 x3 x4 x5 s4))))
def f_X6_wordAt  (x0 : Nat) (x1 : Int32) (x2 : Int32) (σ : wg_M) : Option (Int32 × wg_M) := f_X6_wordAt_10  wg_N x0 x1 x2 (256 : Int32) (0 : Int32) (0 : Int32) σ
set_option maxRecDepth 20000 in
theorem g_X6_wordAt_65 (l : Launch) (E : wg_E) (hE : wg_sx E Sc) (k10 : Nat → Int32 → Int32 → Int32 → Int32 → Int32 → wg_M → Option (Int32 × wg_M)) (x0 : Nat) (x1 : Int32) (x2 : Int32) (x3 : Int32) (x4 : Int32) (x5 : Int32) (σ : wg_M) (z : Int32 × wg_M) (hx0 : wg_t Sc x0 = 8) (hk10 : ∀ (x0 : Nat) (x1 : Int32) (x2 : Int32) (x3 : Int32) (x4 : Int32) (x5 : Int32) (σ : wg_M), wg_t Sc x0 = 8 → k10 x0 x1 x2 x3 x4 x5 σ = some z → wg_G l E Sc "WornWigs$Reader" cX6_wordAt 6 (some .int) rm_X6_wordAt (some z.1) z.2 10 [some (.ref x0), some (.int x1), some (.int x2), some (.int x3), some (.int x4), some (.int x5)] [] σ) (h : f_X6_wordAt_65 k10 x0 x1 x2 x3 x4 x5 σ = some z) : wg_G l E Sc "WornWigs$Reader" cX6_wordAt 6 (some .int) rm_X6_wordAt (some z.1) z.2 65 [some (.ref x0), some (.int x1), some (.int x2), some (.int x3), some (.int x4), some (.int x5)] [] σ := by
  refine wr_iinc (c0 := (1 : Int32)) (wg_da dt_X6_wordAt 35 rfl) rfl (by decide) (by decide) h (fun v1 h => ?_)
  refine wr_goto 10 (wg_da dt_X6_wordAt 36 rfl) (by decide) ?_
  exact wr_wk [true, true, true, true, true, true] (hk10 x0 x1 x2 x3 x4 v1 σ hx0 h)
set_option maxRecDepth 20000 in
theorem g_X6_wordAt_56 (l : Launch) (E : wg_E) (hE : wg_sx E Sc) (k10 : Nat → Int32 → Int32 → Int32 → Int32 → Int32 → wg_M → Option (Int32 × wg_M)) (x0 : Nat) (x1 : Int32) (x2 : Int32) (x3 : Int32) (x5 : Int32) (σ : wg_M) (z : Int32 × wg_M) (hx0 : wg_t Sc x0 = 8) (hk10 : ∀ (x0 : Nat) (x1 : Int32) (x2 : Int32) (x3 : Int32) (x4 : Int32) (x5 : Int32) (σ : wg_M), wg_t Sc x0 = 8 → k10 x0 x1 x2 x3 x4 x5 σ = some z → wg_G l E Sc "WornWigs$Reader" cX6_wordAt 6 (some .int) rm_X6_wordAt (some z.1) z.2 10 [some (.ref x0), some (.int x1), some (.int x2), some (.int x3), some (.int x4), some (.int x5)] [] σ) (h : f_X6_wordAt_56 k10 x0 x1 x2 x3 x5 σ = some z) : wg_G l E Sc "WornWigs$Reader" cX6_wordAt 6 (some .int) rm_X6_wordAt (some z.1) z.2 56 [some (.ref x0), some (.int x1), some (.int x2), some (.int x3), none, some (.int x5)] [] σ := by
  refine wr_iinc (c0 := (1 : Int32)) (wg_da dt_X6_wordAt 30 rfl) rfl (by decide) (by decide) h (fun v1 h => ?_)
  refine wr_iload (wg_da dt_X6_wordAt 31 rfl) rfl ?_
  refine wr_iconst (1 : Int32) (wg_da dt_X6_wordAt 32 rfl) (by decide) ?_
  refine wr_iadd (wg_da dt_X6_wordAt 33 rfl) ?_
  refine wr_let h (fun v2 h => ?_)
  refine wr_istore (wg_da dt_X6_wordAt 34 rfl) (by decide) ?_
  exact wr_wk [true, true, true, true, true, true] (g_X6_wordAt_65 l E hE k10 x0 x1 x2 v1 v2 x5 σ _ hx0 hk10 h)
set_option maxRecDepth 20000 in
theorem g_X6_wordAt_10 (l : Launch) (E : wg_E) (hE : wg_sx E Sc)  (z : Int32 × wg_M) : ∀ (n : Nat) (x0 : Nat) (x1 : Int32) (x2 : Int32) (x3 : Int32) (x4 : Int32) (x5 : Int32) (σ : wg_M) (hx0 : wg_t Sc x0 = 8) (h : f_X6_wordAt_10  n x0 x1 x2 x3 x4 x5 σ = some z), wg_G l E Sc "WornWigs$Reader" cX6_wordAt 6 (some .int) rm_X6_wordAt (some z.1) z.2 10 [some (.ref x0), some (.int x1), some (.int x2), some (.int x3), some (.int x4), some (.int x5)] [] σ := by
  intro n
  induction n with
  | zero => intro x0 x1 x2 x3 x4 x5 σ hx0 h; cases h
  | succ n ih =>
    intro x0 x1 x2 x3 x4 x5 σ hx0 h
    refine wr_iload (wg_da dt_X6_wordAt 6 rfl) rfl ?_
    refine wr_ldcs hE rfl (wg_da dt_X6_wordAt 7 rfl) ?_
    refine wr_callT [] [.int x5] hE (wg_da dt_X6_wordAt 8 rfl) ⟨wq_4_98, wq_4_99, wq_4_100⟩ rfl wy_J0_length_8abf5 (fun q hq => m_J0_length_8abf5 l E hE  _ q hq) rfl rfl (Nat.le_of_ble_eq_true rfl) ⟨rfl, rfl, by decide, by decide⟩ h (fun v1 s2 h => ?_)
    refine wr_icmp_ge 71 (wg_da dt_X6_wordAt 9 rfl) (by decide) h (fun h => ?_) (fun h => ?_)
    · refine wr_iconst (0 : Int32) (wg_da dt_X6_wordAt 37 rfl) (by decide) ?_
      exact wr_iret (wg_da dt_X6_wordAt 38 rfl) h
    · refine wr_ldcs hE rfl (wg_da dt_X6_wordAt 10 rfl) ?_
      refine wr_iload (wg_da dt_X6_wordAt 11 rfl) rfl ?_
      refine wr_callT [.int x5] [] hE (wg_da dt_X6_wordAt 12 rfl) ⟨wq_4_108, wq_4_109, wq_4_110⟩ rfl wy_J0_charAt_5068e (fun q hq => m_J0_charAt_5068e l E hE x5 _ q hq) rfl rfl (Nat.le_of_ble_eq_true rfl) ⟨rfl, rfl, by decide, by decide⟩ h (fun v3 s4 h => ?_)
      refine wr_bipush (32 : Int32) (wg_da dt_X6_wordAt 13 rfl) (by decide) ?_
      refine wr_icmp_ne 65 (wg_da dt_X6_wordAt 14 rfl) (by decide) h (fun h => ?_) (fun h => ?_)
      · refine wr_iload (wg_da dt_X6_wordAt 15 rfl) rfl ?_
        refine wr_iload (wg_da dt_X6_wordAt 16 rfl) rfl ?_
        refine wr_isub (wg_da dt_X6_wordAt 17 rfl) ?_
        refine wr_iload_n (wg_da dt_X6_wordAt 18 rfl) rfl ?_
        refine wr_iload_n (wg_da dt_X6_wordAt 19 rfl) rfl ?_
        refine wr_isub (wg_da dt_X6_wordAt 20 rfl) ?_
        refine wr_icmp_ne 56 (wg_da dt_X6_wordAt 21 rfl) (by decide) h (fun h => ?_) (fun h => ?_)
        · refine wr_aload_n (wg_da dt_X6_wordAt 22 rfl) rfl ?_
          refine wr_iload_n (wg_da dt_X6_wordAt 23 rfl) rfl ?_
          refine wr_iload_n (wg_da dt_X6_wordAt 24 rfl) rfl ?_
          refine wr_iload (wg_da dt_X6_wordAt 25 rfl) rfl ?_
          refine wr_callVi [.int x1, .int x2, .int x4] [] (wg_da dt_X6_wordAt 26 rfl) ⟨wq_4_146, wq_4_148, wq_p1_15⟩ hx0 ⟨rfl, by decide⟩ wy_X6_isSpelt (fun q hq => m_X6_isSpelt l E hE x0 x1 x2 x4 hx0 _ q hq) rfl rfl (Nat.le_of_ble_eq_true rfl) ⟨rfl, rfl, by decide, by decide⟩ h (fun v5 s6 h => ?_)
          refine wr_if_eq 56 (wg_da dt_X6_wordAt 27 rfl) (by decide) h (fun h => ?_) (fun h => ?_)
          · exact wr_wk [true, true, true, true, false, true] (g_X6_wordAt_56 l E hE (f_X6_wordAt_10  n) x0 x1 x2 x3 x5 s6 _ hx0 (fun x0 x1 x2 x3 x4 x5 σ hx0 h => ih x0 x1 x2 x3 x4 x5 σ hx0 h) h)
          · refine wr_iload_n (wg_da dt_X6_wordAt 28 rfl) rfl ?_
            exact wr_iret (wg_da dt_X6_wordAt 29 rfl) h
        · exact wr_wk [true, true, true, true, false, true] (g_X6_wordAt_56 l E hE (f_X6_wordAt_10  n) x0 x1 x2 x3 x5 s4 _ hx0 (fun x0 x1 x2 x3 x4 x5 σ hx0 h => ih x0 x1 x2 x3 x4 x5 σ hx0 h) h)
      · exact wr_wk [true, true, true, true, true, true] (g_X6_wordAt_65 l E hE (f_X6_wordAt_10  n) x0 x1 x2 x3 x4 x5 s4 _ hx0 (fun x0 x1 x2 x3 x4 x5 σ hx0 h => ih x0 x1 x2 x3 x4 x5 σ hx0 h) h)
set_option maxRecDepth 20000 in
theorem g_X6_wordAt_e (l : Launch) (E : wg_E) (hE : wg_sx E Sc)  (x0 : Nat) (x1 : Int32) (x2 : Int32) (σ : wg_M) (z : Int32 × wg_M) (hx0 : wg_t Sc x0 = 8) (h : f_X6_wordAt  x0 x1 x2 σ = some z) : wg_G l E Sc "WornWigs$Reader" cX6_wordAt 6 (some .int) rm_X6_wordAt (some z.1) z.2 0 [some (.ref x0), some (.int x1), some (.int x2), none, none, none] [] σ := by
  refine wr_sipush (256 : Int32) (wg_da dt_X6_wordAt 0 rfl) (by decide) ?_
  refine wr_istore_n (wg_da dt_X6_wordAt 1 rfl) (by decide) ?_
  refine wr_iconst (0 : Int32) (wg_da dt_X6_wordAt 2 rfl) (by decide) ?_
  refine wr_istore (wg_da dt_X6_wordAt 3 rfl) (by decide) ?_
  refine wr_iconst (0 : Int32) (wg_da dt_X6_wordAt 4 rfl) (by decide) ?_
  refine wr_istore (wg_da dt_X6_wordAt 5 rfl) (by decide) ?_
  exact wr_wk [true, true, true, true, true, true] (g_X6_wordAt_10 l E hE  _  wg_N x0 x1 x2 (256 : Int32) (0 : Int32) (0 : Int32) σ hx0 h)
theorem m_X6_wordAt (l : Launch) (E : wg_E) (hE : wg_sx E Sc) (x0 : Nat) (x1 : Int32) (x2 : Int32) (hx0 : wg_t Sc x0 = 8) (σ : wg_M) (q : Int32 × wg_M) (h : f_X6_wordAt x0 x1 x2 σ = some q) : wg_MG l E Sc yX6_wordAt cX6_wordAt 6 (some .int) rm_X6_wordAt [.ref x0, .int x1, .int x2] σ (some q.1) q.2 :=
  wg_met [.ref x0, .int x1, .int x2] (plainFor_of_name (by decide)) (Nat.le_of_ble_eq_true rfl) (g_X6_wordAt_e l E hE x0 x1 x2 σ q hx0 h)
abbrev rm_X6_begin : Room := { frames := 6, cells := 0, slots := 0, locals := 134 }
def tb_X6_begin : List (Nat × Instr × Nat) := [(0, .aload_n 0, 1), (1, .iconst 0, 1), (2, .putfield 54, 3), (5, .aload_n 0, 1), (6, .iconst (-1), 1), (7, .putfield 24, 3), (10, .aload_n 0, 1), (11, .iconst 0, 1), (12, .putfield 57, 3), (15, .aload_n 0, 1), (16, .iconst 0, 1), (17, .putfield 60, 3), (20, .iconst 0, 1), (21, .istore_n 2, 1), (22, .iload_n 2, 1), (23, .aload_n 0, 1), (24, .getfield 51, 3), (27, .if_icmp .ge 179, 3), (30, .iload_n 2, 1), (31, .iconst 1, 1), (32, .iadd, 1), (33, .istore_n 1, 1), (34, .aload_n 0, 1), (35, .getfield 9, 3), (38, .iload_n 2, 1), (39, .iaload, 1), (40, .invokestatic 63, 3), (43, .ifCond .eq 44, 3), (46, .iload_n 1, 1), (47, .aload_n 0, 1), (48, .getfield 51, 3), (51, .if_icmp .ge 21, 3), (54, .aload_n 0, 1), (55, .getfield 9, 3), (58, .iload_n 1, 1), (59, .iaload, 1), (60, .invokestatic 63, 3), (63, .ifCond .eq 9, 3), (66, .iinc 1 1, 3), (69, .goto (-23), 3), (72, .aload_n 0, 1), (73, .aload_n 0, 1), (74, .iload_n 2, 1), (75, .iload_n 1, 1), (76, .invokevirtual 67, 3), (79, .iconst 0, 1), (80, .iload_n 2, 1), (81, .invokevirtual 71, 3), (84, .goto 117, 3), (87, .aload_n 0, 1), (88, .getfield 9, 3), (91, .iload_n 2, 1), (92, .iaload, 1), (93, .invokestatic 75, 3), (96, .ifCond .eq 55, 3), (99, .iload_n 1, 1), (100, .aload_n 0, 1), (101, .getfield 51, 3), (104, .if_icmp .ge 21, 3), (107, .aload_n 0, 1), (108, .getfield 9, 3), (111, .iload_n 1, 1), (112, .iaload, 1), (113, .invokestatic 75, 3), (116, .ifCond .eq 9, 3), (119, .iinc 1 1, 3), (122, .goto (-23), 3), (125, .aload_n 0, 1), (126, .iload_n 1, 1), (127, .iload_n 2, 1), (128, .isub, 1), (129, .iconst 4, 1), (130, .if_icmp .gt 7, 3), (133, .iconst 2, 1), (134, .goto 4, 3), (137, .iconst 0, 1), (138, .aload_n 0, 1), (139, .iload_n 2, 1), (140, .iload_n 1, 1), (141, .invokevirtual 78, 3), (144, .iload_n 2, 1), (145, .invokevirtual 71, 3), (148, .goto 53, 3), (151, .aload_n 0, 1), (152, .getfield 9, 3), (155, .iload_n 2, 1), (156, .iaload, 1), (157, .bipush 32, 2), (159, .if_icmp .eq 42, 3), (162, .aload_n 0, 1), (163, .getfield 9, 3), (166, .iload_n 2, 1), (167, .iaload, 1), (168, .bipush 10, 2), (170, .if_icmp .eq 31, 3), (173, .aload_n 0, 1), (174, .aload_n 0, 1), (175, .getfield 9, 3), (178, .iload_n 2, 1), (179, .iaload, 1), (180, .invokestatic 81, 3), (183, .ifCond .eq 12, 3), (186, .aload_n 0, 1), (187, .getfield 9, 3), (190, .iload_n 2, 1), (191, .iaload, 1), (192, .goto 4, 3), (195, .iconst 0, 1), (196, .iconst 0, 1), (197, .iload_n 2, 1), (198, .invokevirtual 71, 3), (201, .iload_n 1, 1), (202, .istore_n 2, 1), (203, .goto (-181), 3), (206, .aload_n 0, 1), (207, .iconst 1, 1), (208, .iconst 0, 1), (209, .aload_n 0, 1), (210, .getfield 51, 3), (213, .invokevirtual 71, 3), (216, .aload_n 0, 1), (217, .iconst 0, 1), (218, .putfield 51, 3), (221, .return_, 1)]
theorem dt_X6_begin : wg_dc cX6_begin tb_X6_begin := by unfold wg_dc; decide +kernel
def f_X6_begin_201 (k22 : Nat → Int32 → wg_M → Option (Int32 × wg_M)) (x0 : Nat) (x1 : Int32) (σ : wg_M) : Option (Int32 × wg_M) := k22 x0 x1 σ
def f_X6_begin_138 (k22 : Nat → Int32 → wg_M → Option (Int32 × wg_M)) (x0 : Nat) (x1 : Int32) (x2 : Int32) (t0 : Int32) (t1 : Nat) (σ : wg_M) : Option (Int32 × wg_M) := wg_bd (f_X6_numberAt x0 x2 x1 σ) (fun v1 s2 => wg_bd (f_X6_addToken t1 t0 v1 x2 s2) (fun _ s3 => f_X6_begin_201 k22 x0 x1 s3))
def f_X6_begin_125 (k22 : Nat → Int32 → wg_M → Option (Int32 × wg_M)) (x0 : Nat) (x1 : Int32) (x2 : Int32) (σ : wg_M) : Option (Int32 × wg_M) := if (4 : Int32) < (x1 - x2) then (f_X6_begin_138 k22 x0 x1 x2 (0 : Int32) x0 σ) else (f_X6_begin_138 k22 x0 x1 x2 (2 : Int32) x0 σ)
def f_X6_begin_99 (k22 : Nat → Int32 → wg_M → Option (Int32 × wg_M)) : Nat → Nat → Int32 → Int32 → wg_M → Option (Int32 × wg_M)
  | 0, _, _, _, _ => none
  | n + 1, x0, x1, x2, σ => if (σ x0 2) ≤ x1 then (f_X6_begin_125 k22 x0 x1 x2 σ) else (wg_ga (wg_n Sc (wg_r Sc x0 1)) (σ (wg_r Sc x0 1)) x1 (fun v1 => wg_bd (f_X6_isDigit v1 σ) (fun v2 s3 => if v2 = 0 then (f_X6_begin_125 k22 x0 x1 x2 s3) else (wg_let (x1 + (1 : Int32)) (fun v4 => f_X6_begin_99 k22 n x0 v4 x2 s3)))))
def f_X6_begin_196 (k22 : Nat → Int32 → wg_M → Option (Int32 × wg_M)) (x0 : Nat) (x1 : Int32) (x2 : Int32) (t0 : Int32) (t1 : Nat) (σ : wg_M) : Option (Int32 × wg_M) := wg_bd (f_X6_addToken t1 t0 (0 : Int32) x2 σ) (fun _ s1 => f_X6_begin_201 k22 x0 x1 s1)
def f_X6_begin_72 (k22 : Nat → Int32 → wg_M → Option (Int32 × wg_M)) (x0 : Nat) (x1 : Int32) (x2 : Int32) (σ : wg_M) : Option (Int32 × wg_M) := wg_bd (f_X6_wordAt x0 x2 x1 σ) (fun v1 s2 => wg_bd (f_X6_addToken x0 v1 (0 : Int32) x2 s2) (fun _ s3 => f_X6_begin_201 k22 x0 x1 s3))
def f_X6_begin_46 (k22 : Nat → Int32 → wg_M → Option (Int32 × wg_M)) : Nat → Nat → Int32 → Int32 → wg_M → Option (Int32 × wg_M)
  | 0, _, _, _, _ => none
  | n + 1, x0, x1, x2, σ => if (σ x0 2) ≤ x1 then (f_X6_begin_72 k22 x0 x1 x2 σ) else (wg_ga (wg_n Sc (wg_r Sc x0 1)) (σ (wg_r Sc x0 1)) x1 (fun v1 => wg_bd (f_X6_isLetter v1 σ) (fun v2 s3 => if v2 = 0 then (f_X6_begin_72 k22 x0 x1 x2 s3) else (wg_let (x1 + (1 : Int32)) (fun v4 => f_X6_begin_46 k22 n x0 v4 x2 s3)))))
def f_X6_begin_22  : Nat → Nat → Int32 → wg_M → Option (Int32 × wg_M)
  | 0, _, _, _ => none
  | n + 1, x0, x2, σ => if (σ x0 2) ≤ x2 then (wg_bd (f_X6_addToken x0 (1 : Int32) (0 : Int32) (σ x0 2) σ) (fun _ s1 => wg_st s1 x0 2 (0 : Int32) (fun s2 => some (0, s2)))) else (wg_let (x2 + (1 : Int32)) (fun v3 => wg_ga (wg_n Sc (wg_r Sc x0 1)) (σ (wg_r Sc x0 1)) x2 (fun v4 => wg_bd (f_X6_isLetter v4 σ) (fun v5 s6 => if v5 = 0 then (wg_ga (wg_n Sc (wg_r Sc x0 1)) (s6 (wg_r Sc x0 1)) x2 (fun v7 => wg_bd (f_X6_isDigit v7 s6) (fun v8 s9 => if v8 = 0 then (wg_ga (wg_n Sc (wg_r Sc x0 1)) (s9 (wg_r Sc x0 1)) x2 (fun v10 => if v10 = (32 : Int32) then (f_X6_begin_201 (f_X6_begin_22  n) x0 v3 s9) else (wg_ga (wg_n Sc (wg_r Sc x0 1)) (s9 (wg_r Sc x0 1)) x2 (fun v11 => if v11 = (10 : Int32) then (f_X6_begin_201 (f_X6_begin_22  n) x0 v3 s9) else (wg_ga (wg_n Sc (wg_r Sc x0 1)) (s9 (wg_r Sc x0 1)) x2 (fun v12 => wg_bd (f_X6_isSign v12 s9) (fun v13 s14 => if v13 = 0 then (f_X6_begin_196 (f_X6_begin_22  n) x0 v3 x2 (0 : Int32) x0 s14) else (wg_ga (wg_n Sc (wg_r Sc x0 1)) (s14 (wg_r Sc x0 1)) x2 (fun v15 => f_X6_begin_196 (f_X6_begin_22  n) x0 v3 x2 v15 x0 s14))))))))) else (f_X6_begin_99 (f_X6_begin_22  n) wg_N x0 v3 x2 s9)))) else (f_X6_begin_46 (f_X6_begin_22  n) wg_N x0 v3 x2 s6)))))
def f_X6_begin  (x0 : Nat) (σ : wg_M) : Option (Int32 × wg_M) := wg_st σ x0 8 (0 : Int32) (fun s1 => wg_st s1 x0 9 (-1 : Int32) (fun s2 => wg_st s2 x0 7 (0 : Int32) (fun s3 => wg_st s3 x0 6 (0 : Int32) (fun s4 => f_X6_begin_22  wg_N x0 (0 : Int32) s4))))
set_option maxRecDepth 20000 in
theorem g_X6_begin_201 (l : Launch) (E : wg_E) (hE : wg_sx E Sc) (k22 : Nat → Int32 → wg_M → Option (Int32 × wg_M)) (x0 : Nat) (x1 : Int32) (σ : wg_M) (z : Int32 × wg_M) (hx0 : wg_t Sc x0 = 8) (hk22 : ∀ (x0 : Nat) (x2 : Int32) (σ : wg_M), wg_t Sc x0 = 8 → k22 x0 x2 σ = some z → wg_G l E Sc "WornWigs$Reader" cX6_begin 3 none rm_X6_begin none z.2 22 [some (.ref x0), none, some (.int x2)] [] σ) (h : f_X6_begin_201 k22 x0 x1 σ = some z) : wg_G l E Sc "WornWigs$Reader" cX6_begin 3 none rm_X6_begin none z.2 201 [some (.ref x0), some (.int x1), none] [] σ := by
  refine wr_iload_n (wg_da dt_X6_begin 111 rfl) rfl ?_
  refine wr_istore_n (wg_da dt_X6_begin 112 rfl) (by decide) ?_
  refine wr_goto 22 (wg_da dt_X6_begin 113 rfl) (by decide) ?_
  exact wr_wk [true, false, true] (hk22 x0 x1 σ hx0 h)
set_option maxRecDepth 20000 in
theorem g_X6_begin_138 (l : Launch) (E : wg_E) (hE : wg_sx E Sc) (k22 : Nat → Int32 → wg_M → Option (Int32 × wg_M)) (x0 : Nat) (x1 : Int32) (x2 : Int32) (t0 : Int32) (t1 : Nat) (σ : wg_M) (z : Int32 × wg_M) (hx0 : wg_t Sc x0 = 8) (ht1 : wg_t Sc t1 = 8) (hk22 : ∀ (x0 : Nat) (x2 : Int32) (σ : wg_M), wg_t Sc x0 = 8 → k22 x0 x2 σ = some z → wg_G l E Sc "WornWigs$Reader" cX6_begin 3 none rm_X6_begin none z.2 22 [some (.ref x0), none, some (.int x2)] [] σ) (h : f_X6_begin_138 k22 x0 x1 x2 t0 t1 σ = some z) : wg_G l E Sc "WornWigs$Reader" cX6_begin 3 none rm_X6_begin none z.2 138 [some (.ref x0), some (.int x1), some (.int x2)] [.int t0, .ref t1] σ := by
  refine wr_aload_n (wg_da dt_X6_begin 76 rfl) rfl ?_
  refine wr_iload_n (wg_da dt_X6_begin 77 rfl) rfl ?_
  refine wr_iload_n (wg_da dt_X6_begin 78 rfl) rfl ?_
  refine wr_callVi [.int x2, .int x1] [.int t0, .ref t1] (wg_da dt_X6_begin 79 rfl) ⟨wq_4_157, wq_4_159, wq_p2_1⟩ hx0 ⟨rfl, by decide⟩ wy_X6_numberAt (fun q hq => m_X6_numberAt l E x0 x2 x1 hx0 _ q hq) rfl rfl (Nat.le_of_ble_eq_true rfl) ⟨rfl, rfl, by decide, by decide⟩ h (fun v1 s2 h => ?_)
  refine wr_iload_n (wg_da dt_X6_begin 80 rfl) rfl ?_
  refine wr_callVv [.int t0, .int v1, .int x2] [] (wg_da dt_X6_begin 81 rfl) ⟨wq_4_150, wq_4_152, wq_p2_0⟩ ht1 ⟨rfl, by decide⟩ wy_X6_addToken (fun q hq => m_X6_addToken l E t1 t0 v1 x2 ht1 _ q hq) rfl rfl (Nat.le_of_ble_eq_true rfl) ⟨rfl, rfl, by decide, by decide⟩ h (fun _ s3 h => ?_)
  refine wr_goto 201 (wg_da dt_X6_begin 82 rfl) (by decide) ?_
  exact wr_wk [true, true, false] (g_X6_begin_201 l E hE k22 x0 x1 s3 _ hx0 hk22 h)
set_option maxRecDepth 20000 in
theorem g_X6_begin_125 (l : Launch) (E : wg_E) (hE : wg_sx E Sc) (k22 : Nat → Int32 → wg_M → Option (Int32 × wg_M)) (x0 : Nat) (x1 : Int32) (x2 : Int32) (σ : wg_M) (z : Int32 × wg_M) (hx0 : wg_t Sc x0 = 8) (hk22 : ∀ (x0 : Nat) (x2 : Int32) (σ : wg_M), wg_t Sc x0 = 8 → k22 x0 x2 σ = some z → wg_G l E Sc "WornWigs$Reader" cX6_begin 3 none rm_X6_begin none z.2 22 [some (.ref x0), none, some (.int x2)] [] σ) (h : f_X6_begin_125 k22 x0 x1 x2 σ = some z) : wg_G l E Sc "WornWigs$Reader" cX6_begin 3 none rm_X6_begin none z.2 125 [some (.ref x0), some (.int x1), some (.int x2)] [] σ := by
  refine wr_aload_n (wg_da dt_X6_begin 67 rfl) rfl ?_
  refine wr_iload_n (wg_da dt_X6_begin 68 rfl) rfl ?_
  refine wr_iload_n (wg_da dt_X6_begin 69 rfl) rfl ?_
  refine wr_isub (wg_da dt_X6_begin 70 rfl) ?_
  refine wr_iconst (4 : Int32) (wg_da dt_X6_begin 71 rfl) (by decide) ?_
  refine wr_icmp_gt 137 (wg_da dt_X6_begin 72 rfl) (by decide) h (fun h => ?_) (fun h => ?_)
  · refine wr_iconst (0 : Int32) (wg_da dt_X6_begin 75 rfl) (by decide) ?_
    exact wr_wk [true, true, true] (g_X6_begin_138 l E hE k22 x0 x1 x2 (0 : Int32) x0 σ _ hx0 hx0 hk22 h)
  · refine wr_iconst (2 : Int32) (wg_da dt_X6_begin 73 rfl) (by decide) ?_
    refine wr_goto 138 (wg_da dt_X6_begin 74 rfl) (by decide) ?_
    exact wr_wk [true, true, true] (g_X6_begin_138 l E hE k22 x0 x1 x2 (2 : Int32) x0 σ _ hx0 hx0 hk22 h)
set_option maxRecDepth 20000 in
theorem g_X6_begin_99 (l : Launch) (E : wg_E) (hE : wg_sx E Sc) (k22 : Nat → Int32 → wg_M → Option (Int32 × wg_M)) (z : Int32 × wg_M) (hk22 : ∀ (x0 : Nat) (x2 : Int32) (σ : wg_M), wg_t Sc x0 = 8 → k22 x0 x2 σ = some z → wg_G l E Sc "WornWigs$Reader" cX6_begin 3 none rm_X6_begin none z.2 22 [some (.ref x0), none, some (.int x2)] [] σ) : ∀ (n : Nat) (x0 : Nat) (x1 : Int32) (x2 : Int32) (σ : wg_M) (hx0 : wg_t Sc x0 = 8) (h : f_X6_begin_99 k22 n x0 x1 x2 σ = some z), wg_G l E Sc "WornWigs$Reader" cX6_begin 3 none rm_X6_begin none z.2 99 [some (.ref x0), some (.int x1), some (.int x2)] [] σ := by
  intro n
  induction n with
  | zero => intro x0 x1 x2 σ hx0 h; cases h
  | succ n ih =>
    intro x0 x1 x2 σ hx0 h
    refine wr_iload_n (wg_da dt_X6_begin 55 rfl) rfl ?_
    refine wr_aload_n (wg_da dt_X6_begin 56 rfl) rfl ?_
    refine wr_getI wf_X6_51 (wg_da dt_X6_begin 57 rfl) hx0 ?_
    refine wr_icmp_ge 125 (wg_da dt_X6_begin 58 rfl) (by decide) h (fun h => ?_) (fun h => ?_)
    · exact wr_wk [true, true, true] (g_X6_begin_125 l E hE k22 x0 x1 x2 σ _ hx0 hk22 h)
    · refine wr_aload_n (wg_da dt_X6_begin 59 rfl) rfl ?_
      refine wr_getR wf_X6_9 (wg_da dt_X6_begin 60 rfl) hx0 ?_
      refine wr_iload_n (wg_da dt_X6_begin 61 rfl) rfl ?_
      refine wr_iald (wg_da dt_X6_begin 62 rfl) (wg_ty Sc_ok 6 1 0 hx0 rfl (by decide)).2 h (fun v1 h => ?_)
      refine wr_callSi [.int v1] [] (wg_da dt_X6_begin 63 rfl) ⟨wq_4_154, wq_4_155⟩ wy_X6_isDigit (fun q hq => m_X6_isDigit l E v1  _ q hq) rfl rfl (Nat.le_of_ble_eq_true rfl) ⟨rfl, rfl, by decide, by decide⟩ h (fun v2 s3 h => ?_)
      refine wr_if_eq 125 (wg_da dt_X6_begin 64 rfl) (by decide) h (fun h => ?_) (fun h => ?_)
      · exact wr_wk [true, true, true] (g_X6_begin_125 l E hE k22 x0 x1 x2 s3 _ hx0 hk22 h)
      · refine wr_iinc (c0 := (1 : Int32)) (wg_da dt_X6_begin 65 rfl) rfl (by decide) (by decide) h (fun v4 h => ?_)
        refine wr_goto 99 (wg_da dt_X6_begin 66 rfl) (by decide) ?_
        exact wr_wk [true, true, true] (ih x0 v4 x2 s3 hx0 h)
set_option maxRecDepth 20000 in
theorem g_X6_begin_196 (l : Launch) (E : wg_E) (hE : wg_sx E Sc) (k22 : Nat → Int32 → wg_M → Option (Int32 × wg_M)) (x0 : Nat) (x1 : Int32) (x2 : Int32) (t0 : Int32) (t1 : Nat) (σ : wg_M) (z : Int32 × wg_M) (hx0 : wg_t Sc x0 = 8) (ht1 : wg_t Sc t1 = 8) (hk22 : ∀ (x0 : Nat) (x2 : Int32) (σ : wg_M), wg_t Sc x0 = 8 → k22 x0 x2 σ = some z → wg_G l E Sc "WornWigs$Reader" cX6_begin 3 none rm_X6_begin none z.2 22 [some (.ref x0), none, some (.int x2)] [] σ) (h : f_X6_begin_196 k22 x0 x1 x2 t0 t1 σ = some z) : wg_G l E Sc "WornWigs$Reader" cX6_begin 3 none rm_X6_begin none z.2 196 [some (.ref x0), some (.int x1), some (.int x2)] [.int t0, .ref t1] σ := by
  refine wr_iconst (0 : Int32) (wg_da dt_X6_begin 108 rfl) (by decide) ?_
  refine wr_iload_n (wg_da dt_X6_begin 109 rfl) rfl ?_
  refine wr_callVv [.int t0, .int (0 : Int32), .int x2] [] (wg_da dt_X6_begin 110 rfl) ⟨wq_4_150, wq_4_152, wq_p2_0⟩ ht1 ⟨rfl, by decide⟩ wy_X6_addToken (fun q hq => m_X6_addToken l E t1 t0 (0 : Int32) x2 ht1 _ q hq) rfl rfl (Nat.le_of_ble_eq_true rfl) ⟨rfl, rfl, by decide, by decide⟩ h (fun _ s1 h => ?_)
  exact wr_wk [true, true, false] (g_X6_begin_201 l E hE k22 x0 x1 s1 _ hx0 hk22 h)
set_option maxRecDepth 20000 in
theorem g_X6_begin_72 (l : Launch) (E : wg_E) (hE : wg_sx E Sc) (k22 : Nat → Int32 → wg_M → Option (Int32 × wg_M)) (x0 : Nat) (x1 : Int32) (x2 : Int32) (σ : wg_M) (z : Int32 × wg_M) (hx0 : wg_t Sc x0 = 8) (hk22 : ∀ (x0 : Nat) (x2 : Int32) (σ : wg_M), wg_t Sc x0 = 8 → k22 x0 x2 σ = some z → wg_G l E Sc "WornWigs$Reader" cX6_begin 3 none rm_X6_begin none z.2 22 [some (.ref x0), none, some (.int x2)] [] σ) (h : f_X6_begin_72 k22 x0 x1 x2 σ = some z) : wg_G l E Sc "WornWigs$Reader" cX6_begin 3 none rm_X6_begin none z.2 72 [some (.ref x0), some (.int x1), some (.int x2)] [] σ := by
  refine wr_aload_n (wg_da dt_X6_begin 40 rfl) rfl ?_
  refine wr_aload_n (wg_da dt_X6_begin 41 rfl) rfl ?_
  refine wr_iload_n (wg_da dt_X6_begin 42 rfl) rfl ?_
  refine wr_iload_n (wg_da dt_X6_begin 43 rfl) rfl ?_
  refine wr_callVi [.int x2, .int x1] [.ref x0] (wg_da dt_X6_begin 44 rfl) ⟨wq_4_93, wq_4_95, wq_p1_14⟩ hx0 ⟨rfl, by decide⟩ wy_X6_wordAt (fun q hq => m_X6_wordAt l E hE x0 x2 x1 hx0 _ q hq) rfl rfl (Nat.le_of_ble_eq_true rfl) ⟨rfl, rfl, by decide, by decide⟩ h (fun v1 s2 h => ?_)
  refine wr_iconst (0 : Int32) (wg_da dt_X6_begin 45 rfl) (by decide) ?_
  refine wr_iload_n (wg_da dt_X6_begin 46 rfl) rfl ?_
  refine wr_callVv [.int v1, .int (0 : Int32), .int x2] [] (wg_da dt_X6_begin 47 rfl) ⟨wq_4_150, wq_4_152, wq_p2_0⟩ hx0 ⟨rfl, by decide⟩ wy_X6_addToken (fun q hq => m_X6_addToken l E x0 v1 (0 : Int32) x2 hx0 _ q hq) rfl rfl (Nat.le_of_ble_eq_true rfl) ⟨rfl, rfl, by decide, by decide⟩ h (fun _ s3 h => ?_)
  refine wr_goto 201 (wg_da dt_X6_begin 48 rfl) (by decide) ?_
  exact wr_wk [true, true, false] (g_X6_begin_201 l E hE k22 x0 x1 s3 _ hx0 hk22 h)
set_option maxRecDepth 20000 in
theorem g_X6_begin_46 (l : Launch) (E : wg_E) (hE : wg_sx E Sc) (k22 : Nat → Int32 → wg_M → Option (Int32 × wg_M)) (z : Int32 × wg_M) (hk22 : ∀ (x0 : Nat) (x2 : Int32) (σ : wg_M), wg_t Sc x0 = 8 → k22 x0 x2 σ = some z → wg_G l E Sc "WornWigs$Reader" cX6_begin 3 none rm_X6_begin none z.2 22 [some (.ref x0), none, some (.int x2)] [] σ) : ∀ (n : Nat) (x0 : Nat) (x1 : Int32) (x2 : Int32) (σ : wg_M) (hx0 : wg_t Sc x0 = 8) (h : f_X6_begin_46 k22 n x0 x1 x2 σ = some z), wg_G l E Sc "WornWigs$Reader" cX6_begin 3 none rm_X6_begin none z.2 46 [some (.ref x0), some (.int x1), some (.int x2)] [] σ := by
  intro n
  induction n with
  | zero => intro x0 x1 x2 σ hx0 h; cases h
  | succ n ih =>
    intro x0 x1 x2 σ hx0 h
    refine wr_iload_n (wg_da dt_X6_begin 28 rfl) rfl ?_
    refine wr_aload_n (wg_da dt_X6_begin 29 rfl) rfl ?_
    refine wr_getI wf_X6_51 (wg_da dt_X6_begin 30 rfl) hx0 ?_
    refine wr_icmp_ge 72 (wg_da dt_X6_begin 31 rfl) (by decide) h (fun h => ?_) (fun h => ?_)
    · exact wr_wk [true, true, true] (g_X6_begin_72 l E hE k22 x0 x1 x2 σ _ hx0 hk22 h)
    · refine wr_aload_n (wg_da dt_X6_begin 32 rfl) rfl ?_
      refine wr_getR wf_X6_9 (wg_da dt_X6_begin 33 rfl) hx0 ?_
      refine wr_iload_n (wg_da dt_X6_begin 34 rfl) rfl ?_
      refine wr_iald (wg_da dt_X6_begin 35 rfl) (wg_ty Sc_ok 6 1 0 hx0 rfl (by decide)).2 h (fun v1 h => ?_)
      refine wr_callSi [.int v1] [] (wg_da dt_X6_begin 36 rfl) ⟨wq_4_89, wq_4_90⟩ wy_X6_isLetter (fun q hq => m_X6_isLetter l E v1  _ q hq) rfl rfl (Nat.le_of_ble_eq_true rfl) ⟨rfl, rfl, by decide, by decide⟩ h (fun v2 s3 h => ?_)
      refine wr_if_eq 72 (wg_da dt_X6_begin 37 rfl) (by decide) h (fun h => ?_) (fun h => ?_)
      · exact wr_wk [true, true, true] (g_X6_begin_72 l E hE k22 x0 x1 x2 s3 _ hx0 hk22 h)
      · refine wr_iinc (c0 := (1 : Int32)) (wg_da dt_X6_begin 38 rfl) rfl (by decide) (by decide) h (fun v4 h => ?_)
        refine wr_goto 46 (wg_da dt_X6_begin 39 rfl) (by decide) ?_
        exact wr_wk [true, true, true] (ih x0 v4 x2 s3 hx0 h)
set_option maxRecDepth 20000 in
theorem g_X6_begin_22 (l : Launch) (E : wg_E) (hE : wg_sx E Sc)  (z : Int32 × wg_M) : ∀ (n : Nat) (x0 : Nat) (x2 : Int32) (σ : wg_M) (hx0 : wg_t Sc x0 = 8) (h : f_X6_begin_22  n x0 x2 σ = some z), wg_G l E Sc "WornWigs$Reader" cX6_begin 3 none rm_X6_begin none z.2 22 [some (.ref x0), none, some (.int x2)] [] σ := by
  intro n
  induction n with
  | zero => intro x0 x2 σ hx0 h; cases h
  | succ n ih =>
    intro x0 x2 σ hx0 h
    refine wr_iload_n (wg_da dt_X6_begin 14 rfl) rfl ?_
    refine wr_aload_n (wg_da dt_X6_begin 15 rfl) rfl ?_
    refine wr_getI wf_X6_51 (wg_da dt_X6_begin 16 rfl) hx0 ?_
    refine wr_icmp_ge 206 (wg_da dt_X6_begin 17 rfl) (by decide) h (fun h => ?_) (fun h => ?_)
    · refine wr_aload_n (wg_da dt_X6_begin 114 rfl) rfl ?_
      refine wr_iconst (1 : Int32) (wg_da dt_X6_begin 115 rfl) (by decide) ?_
      refine wr_iconst (0 : Int32) (wg_da dt_X6_begin 116 rfl) (by decide) ?_
      refine wr_aload_n (wg_da dt_X6_begin 117 rfl) rfl ?_
      refine wr_getI wf_X6_51 (wg_da dt_X6_begin 118 rfl) hx0 ?_
      refine wr_callVv [.int (1 : Int32), .int (0 : Int32), .int (σ x0 2)] [] (wg_da dt_X6_begin 119 rfl) ⟨wq_4_150, wq_4_152, wq_p2_0⟩ hx0 ⟨rfl, by decide⟩ wy_X6_addToken (fun q hq => m_X6_addToken l E x0 (1 : Int32) (0 : Int32) (σ x0 2) hx0 _ q hq) rfl rfl (Nat.le_of_ble_eq_true rfl) ⟨rfl, rfl, by decide, by decide⟩ h (fun _ s1 h => ?_)
      refine wr_aload_n (wg_da dt_X6_begin 120 rfl) rfl ?_
      refine wr_iconst (0 : Int32) (wg_da dt_X6_begin 121 rfl) (by decide) ?_
      refine wr_putI wfp_X6_51 (wg_da dt_X6_begin 122 rfl) hx0 h (fun s2 h => ?_)
      exact wr_vret (wg_da dt_X6_begin 123 rfl) h
    · refine wr_iload_n (wg_da dt_X6_begin 18 rfl) rfl ?_
      refine wr_iconst (1 : Int32) (wg_da dt_X6_begin 19 rfl) (by decide) ?_
      refine wr_iadd (wg_da dt_X6_begin 20 rfl) ?_
      refine wr_let h (fun v3 h => ?_)
      refine wr_istore_n (wg_da dt_X6_begin 21 rfl) (by decide) ?_
      refine wr_aload_n (wg_da dt_X6_begin 22 rfl) rfl ?_
      refine wr_getR wf_X6_9 (wg_da dt_X6_begin 23 rfl) hx0 ?_
      refine wr_iload_n (wg_da dt_X6_begin 24 rfl) rfl ?_
      refine wr_iald (wg_da dt_X6_begin 25 rfl) (wg_ty Sc_ok 6 1 0 hx0 rfl (by decide)).2 h (fun v4 h => ?_)
      refine wr_callSi [.int v4] [] (wg_da dt_X6_begin 26 rfl) ⟨wq_4_89, wq_4_90⟩ wy_X6_isLetter (fun q hq => m_X6_isLetter l E v4  _ q hq) rfl rfl (Nat.le_of_ble_eq_true rfl) ⟨rfl, rfl, by decide, by decide⟩ h (fun v5 s6 h => ?_)
      refine wr_if_eq 87 (wg_da dt_X6_begin 27 rfl) (by decide) h (fun h => ?_) (fun h => ?_)
      · refine wr_aload_n (wg_da dt_X6_begin 49 rfl) rfl ?_
        refine wr_getR wf_X6_9 (wg_da dt_X6_begin 50 rfl) hx0 ?_
        refine wr_iload_n (wg_da dt_X6_begin 51 rfl) rfl ?_
        refine wr_iald (wg_da dt_X6_begin 52 rfl) (wg_ty Sc_ok 6 1 0 hx0 rfl (by decide)).2 h (fun v7 h => ?_)
        refine wr_callSi [.int v7] [] (wg_da dt_X6_begin 53 rfl) ⟨wq_4_154, wq_4_155⟩ wy_X6_isDigit (fun q hq => m_X6_isDigit l E v7  _ q hq) rfl rfl (Nat.le_of_ble_eq_true rfl) ⟨rfl, rfl, by decide, by decide⟩ h (fun v8 s9 h => ?_)
        refine wr_if_eq 151 (wg_da dt_X6_begin 54 rfl) (by decide) h (fun h => ?_) (fun h => ?_)
        · refine wr_aload_n (wg_da dt_X6_begin 83 rfl) rfl ?_
          refine wr_getR wf_X6_9 (wg_da dt_X6_begin 84 rfl) hx0 ?_
          refine wr_iload_n (wg_da dt_X6_begin 85 rfl) rfl ?_
          refine wr_iald (wg_da dt_X6_begin 86 rfl) (wg_ty Sc_ok 6 1 0 hx0 rfl (by decide)).2 h (fun v10 h => ?_)
          refine wr_bipush (32 : Int32) (wg_da dt_X6_begin 87 rfl) (by decide) ?_
          refine wr_icmp_eq 201 (wg_da dt_X6_begin 88 rfl) (by decide) h (fun h => ?_) (fun h => ?_)
          · exact wr_wk [true, true, false] (g_X6_begin_201 l E hE (f_X6_begin_22  n) x0 v3 s9 _ hx0 (fun x0 x2 σ hx0 h => ih x0 x2 σ hx0 h) h)
          · refine wr_aload_n (wg_da dt_X6_begin 89 rfl) rfl ?_
            refine wr_getR wf_X6_9 (wg_da dt_X6_begin 90 rfl) hx0 ?_
            refine wr_iload_n (wg_da dt_X6_begin 91 rfl) rfl ?_
            refine wr_iald (wg_da dt_X6_begin 92 rfl) (wg_ty Sc_ok 6 1 0 hx0 rfl (by decide)).2 h (fun v11 h => ?_)
            refine wr_bipush (10 : Int32) (wg_da dt_X6_begin 93 rfl) (by decide) ?_
            refine wr_icmp_eq 201 (wg_da dt_X6_begin 94 rfl) (by decide) h (fun h => ?_) (fun h => ?_)
            · exact wr_wk [true, true, false] (g_X6_begin_201 l E hE (f_X6_begin_22  n) x0 v3 s9 _ hx0 (fun x0 x2 σ hx0 h => ih x0 x2 σ hx0 h) h)
            · refine wr_aload_n (wg_da dt_X6_begin 95 rfl) rfl ?_
              refine wr_aload_n (wg_da dt_X6_begin 96 rfl) rfl ?_
              refine wr_getR wf_X6_9 (wg_da dt_X6_begin 97 rfl) hx0 ?_
              refine wr_iload_n (wg_da dt_X6_begin 98 rfl) rfl ?_
              refine wr_iald (wg_da dt_X6_begin 99 rfl) (wg_ty Sc_ok 6 1 0 hx0 rfl (by decide)).2 h (fun v12 h => ?_)
              refine wr_callSi [.int v12] [.ref x0] (wg_da dt_X6_begin 100 rfl) ⟨wq_4_161, wq_4_162⟩ wy_X6_isSign (fun q hq => m_X6_isSign l E v12  _ q hq) rfl rfl (Nat.le_of_ble_eq_true rfl) ⟨rfl, rfl, by decide, by decide⟩ h (fun v13 s14 h => ?_)
              refine wr_if_eq 195 (wg_da dt_X6_begin 101 rfl) (by decide) h (fun h => ?_) (fun h => ?_)
              · refine wr_iconst (0 : Int32) (wg_da dt_X6_begin 107 rfl) (by decide) ?_
                exact wr_wk [true, true, true] (g_X6_begin_196 l E hE (f_X6_begin_22  n) x0 v3 x2 (0 : Int32) x0 s14 _ hx0 hx0 (fun x0 x2 σ hx0 h => ih x0 x2 σ hx0 h) h)
              · refine wr_aload_n (wg_da dt_X6_begin 102 rfl) rfl ?_
                refine wr_getR wf_X6_9 (wg_da dt_X6_begin 103 rfl) hx0 ?_
                refine wr_iload_n (wg_da dt_X6_begin 104 rfl) rfl ?_
                refine wr_iald (wg_da dt_X6_begin 105 rfl) (wg_ty Sc_ok 6 1 0 hx0 rfl (by decide)).2 h (fun v15 h => ?_)
                refine wr_goto 196 (wg_da dt_X6_begin 106 rfl) (by decide) ?_
                exact wr_wk [true, true, true] (g_X6_begin_196 l E hE (f_X6_begin_22  n) x0 v3 x2 v15 x0 s14 _ hx0 hx0 (fun x0 x2 σ hx0 h => ih x0 x2 σ hx0 h) h)
        · exact wr_wk [true, true, true] (g_X6_begin_99 l E hE (f_X6_begin_22  n) _ (fun x0 x2 σ hx0 h => ih x0 x2 σ hx0 h) wg_N x0 v3 x2 s9 hx0 h)
      · exact wr_wk [true, true, true] (g_X6_begin_46 l E hE (f_X6_begin_22  n) _ (fun x0 x2 σ hx0 h => ih x0 x2 σ hx0 h) wg_N x0 v3 x2 s6 hx0 h)
set_option maxRecDepth 20000 in
theorem g_X6_begin_e (l : Launch) (E : wg_E) (hE : wg_sx E Sc)  (x0 : Nat) (σ : wg_M) (z : Int32 × wg_M) (hx0 : wg_t Sc x0 = 8) (h : f_X6_begin  x0 σ = some z) : wg_G l E Sc "WornWigs$Reader" cX6_begin 3 none rm_X6_begin none z.2 0 [some (.ref x0), none, none] [] σ := by
  refine wr_aload_n (wg_da dt_X6_begin 0 rfl) rfl ?_
  refine wr_iconst (0 : Int32) (wg_da dt_X6_begin 1 rfl) (by decide) ?_
  refine wr_putI wfp_X6_54 (wg_da dt_X6_begin 2 rfl) hx0 h (fun s1 h => ?_)
  refine wr_aload_n (wg_da dt_X6_begin 3 rfl) rfl ?_
  refine wr_iconst (-1 : Int32) (wg_da dt_X6_begin 4 rfl) (by decide) ?_
  refine wr_putI wfp_X6_24 (wg_da dt_X6_begin 5 rfl) hx0 h (fun s2 h => ?_)
  refine wr_aload_n (wg_da dt_X6_begin 6 rfl) rfl ?_
  refine wr_iconst (0 : Int32) (wg_da dt_X6_begin 7 rfl) (by decide) ?_
  refine wr_putI wfp_X6_57 (wg_da dt_X6_begin 8 rfl) hx0 h (fun s3 h => ?_)
  refine wr_aload_n (wg_da dt_X6_begin 9 rfl) rfl ?_
  refine wr_iconst (0 : Int32) (wg_da dt_X6_begin 10 rfl) (by decide) ?_
  refine wr_putI wfp_X6_60 (wg_da dt_X6_begin 11 rfl) hx0 h (fun s4 h => ?_)
  refine wr_iconst (0 : Int32) (wg_da dt_X6_begin 12 rfl) (by decide) ?_
  refine wr_istore_n (wg_da dt_X6_begin 13 rfl) (by decide) ?_
  exact wr_wk [true, false, true] (g_X6_begin_22 l E hE  _  wg_N x0 (0 : Int32) s4 hx0 h)
theorem m_X6_begin (l : Launch) (E : wg_E) (hE : wg_sx E Sc) (x0 : Nat) (hx0 : wg_t Sc x0 = 8) (σ : wg_M) (q : Int32 × wg_M) (h : f_X6_begin x0 σ = some q) : wg_MG l E Sc yX6_begin cX6_begin 3 none rm_X6_begin [.ref x0] σ none q.2 :=
  wg_met [.ref x0] (plainFor_of_name (by decide)) (Nat.le_of_ble_eq_true rfl) (g_X6_begin_e l E hE x0 σ q hx0 h)
abbrev rm_X11_text : Room := { frames := 7, cells := 0, slots := 0, locals := 156 }
def tb_X11_text : List (Nat × Instr × Nat) := [(0, .aload_n 0, 1), (1, .getfield 31, 3), (4, .invokevirtual 166, 3), (7, .iload_n 1, 1), (8, .ifCond .ne 28, 3), (11, .aload_n 0, 1), (12, .getfield 31, 3), (15, .invokevirtual 169, 3), (18, .ifCond .eq 16, 3), (21, .aload_n 0, 1), (22, .getfield 12, 3), (25, .getfield 173, 3), (28, .getfield 177, 3), (31, .goto 4, 3), (34, .iconst (-1), 1), (35, .ireturn, 1), (36, .iload_n 1, 1), (37, .iconst 1, 1), (38, .iconst 3, 1), (39, .invokestatic 73, 3), (42, .ifCond .eq 14, 3), (45, .aload_n 0, 1), (46, .getfield 31, 3), (49, .iload_n 1, 1), (50, .invokevirtual 182, 3), (53, .ifCond .ne 5, 3), (56, .iconst (-1), 1), (57, .ireturn, 1), (58, .iload_n 1, 1), (59, .iconst 3, 1), (60, .if_icmp .eq 10, 3), (63, .aload_n 0, 1), (64, .getfield 22, 3), (67, .invokevirtual 61, 3), (70, .aload_n 0, 1), (71, .getfield 31, 3), (74, .getfield 185, 3), (77, .getfield 188, 3), (80, .ireturn, 1)]
theorem dt_X11_text : wg_dc cX11_text tb_X11_text := by unfold wg_dc; decide +kernel
def f_X11_text_70  (x0 : Nat) (σ : wg_M) : Option (Int32 × wg_M) := some (σ (wg_r Sc (wg_r Sc x0 3) 11) 4, σ)
def f_X11_text  (x0 : Nat) (x1 : Int32) (σ : wg_M) : Option (Int32 × wg_M) := wg_bd (f_X6_begin (wg_r Sc x0 3) σ) (fun _ s1 => if x1 = 0 then (wg_bd (f_X6_readLaw (wg_r Sc x0 3) s1) (fun v7 s8 => if v7 = 0 then (some ((-1 : Int32), s8)) else (some (s8 (wg_r Sc (wg_r Sc x0 0) 2) 6, s8)))) else (wg_bd (f_X11_within x1 (1 : Int32) (3 : Int32) s1) (fun v2 s3 => if v2 = 0 then (some ((-1 : Int32), s3)) else (wg_bd (f_X6_readLines (wg_r Sc x0 3) x1 s3) (fun v4 s5 => if v4 = 0 then (some ((-1 : Int32), s5)) else (if x1 = (3 : Int32) then (f_X11_text_70  x0 s5) else (wg_bd (f_X5_forget (wg_r Sc x0 2) s5) (fun _ s6 => f_X11_text_70  x0 s6))))))))
set_option maxRecDepth 20000 in
theorem g_X11_text_70 (l : Launch) (E : wg_E) (hE : wg_sx E Sc)  (x0 : Nat) (σ : wg_M) (z : Int32 × wg_M) (hx0 : wg_t Sc x0 = 13) (h : f_X11_text_70  x0 σ = some z) : wg_G l E Sc "WornWigs" cX11_text 2 (some .int) rm_X11_text (some z.1) z.2 70 [some (.ref x0), none] [] σ := by
  refine wr_aload_n (wg_da dt_X11_text 34 rfl) rfl ?_
  refine wr_getR wf_X11_31 (wg_da dt_X11_text 35 rfl) hx0 ?_
  refine wr_getR wf_X11_185 (wg_da dt_X11_text 36 rfl) (wg_ty Sc_ok 11 3 8 hx0 rfl (by decide)).2 ?_
  refine wr_getI wf_X11_188 (wg_da dt_X11_text 37 rfl) (wg_ty Sc_ok 6 11 6 (wg_ty Sc_ok 11 3 8 hx0 rfl (by decide)).2 rfl (by decide)).2 ?_
  exact wr_iret (wg_da dt_X11_text 38 rfl) h
set_option maxRecDepth 20000 in
theorem g_X11_text_e (l : Launch) (E : wg_E) (hE : wg_sx E Sc)  (x0 : Nat) (x1 : Int32) (σ : wg_M) (z : Int32 × wg_M) (hx0 : wg_t Sc x0 = 13) (h : f_X11_text  x0 x1 σ = some z) : wg_G l E Sc "WornWigs" cX11_text 2 (some .int) rm_X11_text (some z.1) z.2 0 [some (.ref x0), some (.int x1)] [] σ := by
  refine wr_aload_n (wg_da dt_X11_text 0 rfl) rfl ?_
  refine wr_getR wf_X11_31 (wg_da dt_X11_text 1 rfl) hx0 ?_
  refine wr_callVv [] [] (wg_da dt_X11_text 2 rfl) ⟨wq_4_85, wq_4_86, wq_4_87⟩ (wg_ty Sc_ok 11 3 8 hx0 rfl (by decide)).2 ⟨rfl, by decide⟩ wy_X6_begin (fun q hq => m_X6_begin l E hE (wg_r Sc x0 3) (wg_ty Sc_ok 11 3 8 hx0 rfl (by decide)).2 _ q hq) rfl rfl (Nat.le_of_ble_eq_true rfl) ⟨rfl, rfl, by decide, by decide⟩ h (fun _ s1 h => ?_)
  refine wr_iload_n (wg_da dt_X11_text 3 rfl) rfl ?_
  refine wr_if_ne 36 (wg_da dt_X11_text 4 rfl) (by decide) h (fun h => ?_) (fun h => ?_)
  · refine wr_aload_n (wg_da dt_X11_text 5 rfl) rfl ?_
    refine wr_getR wf_X11_31 (wg_da dt_X11_text 6 rfl) hx0 ?_
    refine wr_callVi [] [] (wg_da dt_X11_text 7 rfl) ⟨wq_4_164, wq_4_165, wq_4_166⟩ (wg_ty Sc_ok 11 3 8 hx0 rfl (by decide)).2 ⟨rfl, by decide⟩ wy_X6_readLaw (fun q hq => m_X6_readLaw l E (wg_r Sc x0 3) (wg_ty Sc_ok 11 3 8 hx0 rfl (by decide)).2 _ q hq) rfl rfl (Nat.le_of_ble_eq_true rfl) ⟨rfl, rfl, by decide, by decide⟩ h (fun v7 s8 h => ?_)
    refine wr_if_eq 34 (wg_da dt_X11_text 8 rfl) (by decide) h (fun h => ?_) (fun h => ?_)
    · refine wr_iconst (-1 : Int32) (wg_da dt_X11_text 14 rfl) (by decide) ?_
      exact wr_iret (wg_da dt_X11_text 15 rfl) h
    · refine wr_aload_n (wg_da dt_X11_text 9 rfl) rfl ?_
      refine wr_getR wf_X11_12 (wg_da dt_X11_text 10 rfl) hx0 ?_
      refine wr_getR wf_X11_173 (wg_da dt_X11_text 11 rfl) (wg_ty Sc_ok 11 0 12 hx0 rfl (by decide)).2 ?_
      refine wr_getI wf_X11_177 (wg_da dt_X11_text 12 rfl) (wg_ty Sc_ok 10 2 5 (wg_ty Sc_ok 11 0 12 hx0 rfl (by decide)).2 rfl (by decide)).2 ?_
      refine wr_goto 35 (wg_da dt_X11_text 13 rfl) (by decide) ?_
      exact wr_iret (wg_da dt_X11_text 15 rfl) h
  · refine wr_iload_n (wg_da dt_X11_text 16 rfl) rfl ?_
    refine wr_iconst (1 : Int32) (wg_da dt_X11_text 17 rfl) (by decide) ?_
    refine wr_iconst (3 : Int32) (wg_da dt_X11_text 18 rfl) (by decide) ?_
    refine wr_callSi [.int x1, .int (1 : Int32), .int (3 : Int32)] [] (wg_da dt_X11_text 19 rfl) ⟨wq_3_48, wq_3_49⟩ wy_X11_within (fun q hq => m_X11_within l E x1 (1 : Int32) (3 : Int32)  _ q hq) rfl rfl (Nat.le_of_ble_eq_true rfl) ⟨rfl, rfl, by decide, by decide⟩ h (fun v2 s3 h => ?_)
    refine wr_if_eq 56 (wg_da dt_X11_text 20 rfl) (by decide) h (fun h => ?_) (fun h => ?_)
    · refine wr_iconst (-1 : Int32) (wg_da dt_X11_text 26 rfl) (by decide) ?_
      exact wr_iret (wg_da dt_X11_text 27 rfl) h
    · refine wr_aload_n (wg_da dt_X11_text 21 rfl) rfl ?_
      refine wr_getR wf_X11_31 (wg_da dt_X11_text 22 rfl) hx0 ?_
      refine wr_iload_n (wg_da dt_X11_text 23 rfl) rfl ?_
      refine wr_callVi [.int x1] [] (wg_da dt_X11_text 24 rfl) ⟨wq_4_233, wq_4_234, wq_4_235⟩ (wg_ty Sc_ok 11 3 8 hx0 rfl (by decide)).2 ⟨rfl, by decide⟩ wy_X6_readLines (fun q hq => m_X6_readLines l E (wg_r Sc x0 3) x1 (wg_ty Sc_ok 11 3 8 hx0 rfl (by decide)).2 _ q hq) rfl rfl (Nat.le_of_ble_eq_true rfl) ⟨rfl, rfl, by decide, by decide⟩ h (fun v4 s5 h => ?_)
      refine wr_if_ne 58 (wg_da dt_X11_text 25 rfl) (by decide) h (fun h => ?_) (fun h => ?_)
      · refine wr_iconst (-1 : Int32) (wg_da dt_X11_text 26 rfl) (by decide) ?_
        exact wr_iret (wg_da dt_X11_text 27 rfl) h
      · refine wr_iload_n (wg_da dt_X11_text 28 rfl) rfl ?_
        refine wr_iconst (3 : Int32) (wg_da dt_X11_text 29 rfl) (by decide) ?_
        refine wr_icmp_eq 70 (wg_da dt_X11_text 30 rfl) (by decide) h (fun h => ?_) (fun h => ?_)
        · exact wr_wk [true, false] (g_X11_text_70 l E hE  x0 s5 _ hx0  h)
        · refine wr_aload_n (wg_da dt_X11_text 31 rfl) rfl ?_
          refine wr_getR wf_X11_22 (wg_da dt_X11_text 32 rfl) hx0 ?_
          refine wr_callVv [] [] (wg_da dt_X11_text 33 rfl) ⟨wq_3_40, wq_3_41, wq_3_42⟩ (wg_ty Sc_ok 11 2 7 hx0 rfl (by decide)).2 ⟨rfl, by decide⟩ wy_X5_forget (fun q hq => m_X5_forget l E (wg_r Sc x0 2) (wg_ty Sc_ok 11 2 7 hx0 rfl (by decide)).2 _ q hq) rfl rfl (Nat.le_of_ble_eq_true rfl) ⟨rfl, rfl, by decide, by decide⟩ h (fun _ s6 h => ?_)
          exact wr_wk [true, false] (g_X11_text_70 l E hE  x0 s6 _ hx0  h)
theorem m_X11_text (l : Launch) (E : wg_E) (hE : wg_sx E Sc) (x0 : Nat) (x1 : Int32) (hx0 : wg_t Sc x0 = 13) (σ : wg_M) (q : Int32 × wg_M) (h : f_X11_text x0 x1 σ = some q) : wg_MG l E Sc yX11_text cX11_text 2 (some .int) rm_X11_text [.ref x0, .int x1] σ (some q.1) q.2 :=
  wg_met [.ref x0, .int x1] (plainFor_of_name (by decide)) (Nat.le_of_ble_eq_true rfl) (g_X11_text_e l E hE x0 x1 σ q hx0 h)

abbrev rm_X7_forumOf : Room := { frames := 5, cells := 0, slots := 0, locals := 123 }
def tb_X7_forumOf : List (Nat × Instr × Nat) := [(0, .iconst (-1), 1), (1, .istore_n 3, 1), (2, .iconst 0, 1), (3, .istore 4, 2), (5, .iconst 0, 1), (6, .istore 5, 2), (8, .iload 5, 2), (10, .aload_n 0, 1), (11, .getfield 9, 3), (14, .getfield 19, 3), (17, .getfield 25, 3), (20, .getfield 31, 3), (23, .if_icmp .ge 92, 3), (26, .aload_n 0, 1), (27, .getfield 9, 3), (30, .getfield 19, 3), (33, .getfield 25, 3), (36, .iload 5, 2), (38, .invokevirtual 37, 3), (41, .ifCond .ne 6, 3), (44, .goto 65, 3), (47, .aload_n 0, 1), (48, .getfield 15, 3), (51, .iload_n 1, 1), (52, .iload 5, 2), (54, .invokevirtual 41, 3), (57, .istore 6, 2), (59, .iload_n 2, 1), (60, .ifCond .eq 18, 3), (63, .iload 6, 2), (65, .iload 4, 2), (67, .if_icmp .le 7, 3), (70, .iconst 1, 1), (71, .goto 19, 3), (74, .iconst 0, 1), (75, .goto 15, 3), (78, .iload 6, 2), (80, .iload 4, 2), (82, .if_icmp .ge 7, 3), (85, .iconst 1, 1), (86, .goto 4, 3), (89, .iconst 0, 1), (90, .istore 7, 2), (92, .iload_n 3, 1), (93, .iconst (-1), 1), (94, .if_icmp .eq 8, 3), (97, .iload 7, 2), (99, .ifCond .eq 10, 3), (102, .iload 5, 2), (104, .istore_n 3, 1), (105, .iload 6, 2), (107, .istore 4, 2), (109, .iinc 5 1, 3), (112, .goto (-104), 3), (115, .iload_n 3, 1), (116, .ireturn, 1)]
theorem dt_X7_forumOf : wg_dc cX7_forumOf tb_X7_forumOf := by unfold wg_dc; decide +kernel
def f_X7_forumOf_109 (k8 : Nat → Int32 → Int32 → Int32 → Int32 → Int32 → wg_M → Option (Int32 × wg_M)) (x0 : Nat) (x1 : Int32) (x2 : Int32) (x3 : Int32) (x4 : Int32) (x5 : Int32) (σ : wg_M) : Option (Int32 × wg_M) := wg_let (x5 + (1 : Int32)) (fun v1 => k8 x0 x1 x2 x3 x4 v1 σ)
def f_X7_forumOf_102 (k8 : Nat → Int32 → Int32 → Int32 → Int32 → Int32 → wg_M → Option (Int32 × wg_M)) (x0 : Nat) (x1 : Int32) (x2 : Int32) (x5 : Int32) (x6 : Int32) (σ : wg_M) : Option (Int32 × wg_M) := f_X7_forumOf_109 k8 x0 x1 x2 x5 x6 x5 σ
def f_X7_forumOf_90 (k8 : Nat → Int32 → Int32 → Int32 → Int32 → Int32 → wg_M → Option (Int32 × wg_M)) (x0 : Nat) (x1 : Int32) (x2 : Int32) (x3 : Int32) (x4 : Int32) (x5 : Int32) (x6 : Int32) (t0 : Int32) (σ : wg_M) : Option (Int32 × wg_M) := if x3 = (-1 : Int32) then (f_X7_forumOf_102 k8 x0 x1 x2 x5 x6 σ) else (if t0 = 0 then (f_X7_forumOf_109 k8 x0 x1 x2 x3 x4 x5 σ) else (f_X7_forumOf_102 k8 x0 x1 x2 x5 x6 σ))
def f_X7_forumOf_8  : Nat → Nat → Int32 → Int32 → Int32 → Int32 → Int32 → wg_M → Option (Int32 × wg_M)
  | 0, _, _, _, _, _, _, _ => none
  | n + 1, x0, x1, x2, x3, x4, x5, σ => if (σ (wg_r Sc (wg_r Sc (wg_r Sc x0 0) 0) 1) 5) ≤ x5 then (some (x3, σ)) else (wg_bd (f_X2_lives (wg_r Sc (wg_r Sc (wg_r Sc x0 0) 0) 1) x5 σ) (fun v1 s2 => if v1 = 0 then (f_X7_forumOf_109 (f_X7_forumOf_8  n) x0 x1 x2 x3 x4 x5 s2) else (wg_bd (f_X1_verdictOf (wg_r Sc x0 1) x1 x5 s2) (fun v3 s4 => if x2 = 0 then (if x4 ≤ v3 then (f_X7_forumOf_90 (f_X7_forumOf_8  n) x0 x1 x2 x3 x4 x5 v3 (0 : Int32) s4) else (f_X7_forumOf_90 (f_X7_forumOf_8  n) x0 x1 x2 x3 x4 x5 v3 (1 : Int32) s4)) else (if v3 ≤ x4 then (f_X7_forumOf_90 (f_X7_forumOf_8  n) x0 x1 x2 x3 x4 x5 v3 (0 : Int32) s4) else (f_X7_forumOf_90 (f_X7_forumOf_8  n) x0 x1 x2 x3 x4 x5 v3 (1 : Int32) s4))))))
def f_X7_forumOf  (x0 : Nat) (x1 : Int32) (x2 : Int32) (σ : wg_M) : Option (Int32 × wg_M) := f_X7_forumOf_8  wg_N x0 x1 x2 (-1 : Int32) (0 : Int32) (0 : Int32) σ
set_option maxRecDepth 20000 in
theorem g_X7_forumOf_109 (l : Launch) (E : wg_E) (k8 : Nat → Int32 → Int32 → Int32 → Int32 → Int32 → wg_M → Option (Int32 × wg_M)) (x0 : Nat) (x1 : Int32) (x2 : Int32) (x3 : Int32) (x4 : Int32) (x5 : Int32) (σ : wg_M) (z : Int32 × wg_M) (hx0 : wg_t Sc x0 = 9) (hk8 : ∀ (x0 : Nat) (x1 : Int32) (x2 : Int32) (x3 : Int32) (x4 : Int32) (x5 : Int32) (σ : wg_M), wg_t Sc x0 = 9 → k8 x0 x1 x2 x3 x4 x5 σ = some z → wg_G l E Sc "WornWigs$Thought" cX7_forumOf 8 (some .int) rm_X7_forumOf (some z.1) z.2 8 [some (.ref x0), some (.int x1), some (.int x2), some (.int x3), some (.int x4), some (.int x5), none, none] [] σ) (h : f_X7_forumOf_109 k8 x0 x1 x2 x3 x4 x5 σ = some z) : wg_G l E Sc "WornWigs$Thought" cX7_forumOf 8 (some .int) rm_X7_forumOf (some z.1) z.2 109 [some (.ref x0), some (.int x1), some (.int x2), some (.int x3), some (.int x4), some (.int x5), none, none] [] σ := by
  refine wr_iinc (c0 := (1 : Int32)) (wg_da dt_X7_forumOf 52 rfl) rfl (by decide) (by decide) h (fun v1 h => ?_)
  refine wr_goto 8 (wg_da dt_X7_forumOf 53 rfl) (by decide) ?_
  exact wr_wk [true, true, true, true, true, true, false, false] (hk8 x0 x1 x2 x3 x4 v1 σ hx0 h)
set_option maxRecDepth 20000 in
theorem g_X7_forumOf_102 (l : Launch) (E : wg_E) (k8 : Nat → Int32 → Int32 → Int32 → Int32 → Int32 → wg_M → Option (Int32 × wg_M)) (x0 : Nat) (x1 : Int32) (x2 : Int32) (x5 : Int32) (x6 : Int32) (σ : wg_M) (z : Int32 × wg_M) (hx0 : wg_t Sc x0 = 9) (hk8 : ∀ (x0 : Nat) (x1 : Int32) (x2 : Int32) (x3 : Int32) (x4 : Int32) (x5 : Int32) (σ : wg_M), wg_t Sc x0 = 9 → k8 x0 x1 x2 x3 x4 x5 σ = some z → wg_G l E Sc "WornWigs$Thought" cX7_forumOf 8 (some .int) rm_X7_forumOf (some z.1) z.2 8 [some (.ref x0), some (.int x1), some (.int x2), some (.int x3), some (.int x4), some (.int x5), none, none] [] σ) (h : f_X7_forumOf_102 k8 x0 x1 x2 x5 x6 σ = some z) : wg_G l E Sc "WornWigs$Thought" cX7_forumOf 8 (some .int) rm_X7_forumOf (some z.1) z.2 102 [some (.ref x0), some (.int x1), some (.int x2), none, none, some (.int x5), some (.int x6), none] [] σ := by
  refine wr_iload (wg_da dt_X7_forumOf 48 rfl) rfl ?_
  refine wr_istore_n (wg_da dt_X7_forumOf 49 rfl) (by decide) ?_
  refine wr_iload (wg_da dt_X7_forumOf 50 rfl) rfl ?_
  refine wr_istore (wg_da dt_X7_forumOf 51 rfl) (by decide) ?_
  exact wr_wk [true, true, true, true, true, true, false, false] (g_X7_forumOf_109 l E k8 x0 x1 x2 x5 x6 x5 σ _ hx0 hk8 h)
set_option maxRecDepth 20000 in
theorem g_X7_forumOf_90 (l : Launch) (E : wg_E) (k8 : Nat → Int32 → Int32 → Int32 → Int32 → Int32 → wg_M → Option (Int32 × wg_M)) (x0 : Nat) (x1 : Int32) (x2 : Int32) (x3 : Int32) (x4 : Int32) (x5 : Int32) (x6 : Int32) (t0 : Int32) (σ : wg_M) (z : Int32 × wg_M) (hx0 : wg_t Sc x0 = 9) (hk8 : ∀ (x0 : Nat) (x1 : Int32) (x2 : Int32) (x3 : Int32) (x4 : Int32) (x5 : Int32) (σ : wg_M), wg_t Sc x0 = 9 → k8 x0 x1 x2 x3 x4 x5 σ = some z → wg_G l E Sc "WornWigs$Thought" cX7_forumOf 8 (some .int) rm_X7_forumOf (some z.1) z.2 8 [some (.ref x0), some (.int x1), some (.int x2), some (.int x3), some (.int x4), some (.int x5), none, none] [] σ) (h : f_X7_forumOf_90 k8 x0 x1 x2 x3 x4 x5 x6 t0 σ = some z) : wg_G l E Sc "WornWigs$Thought" cX7_forumOf 8 (some .int) rm_X7_forumOf (some z.1) z.2 90 [some (.ref x0), some (.int x1), some (.int x2), some (.int x3), some (.int x4), some (.int x5), some (.int x6), none] [.int t0] σ := by
  refine wr_istore (wg_da dt_X7_forumOf 42 rfl) (by decide) ?_
  refine wr_iload_n (wg_da dt_X7_forumOf 43 rfl) rfl ?_
  refine wr_iconst (-1 : Int32) (wg_da dt_X7_forumOf 44 rfl) (by decide) ?_
  refine wr_icmp_eq 102 (wg_da dt_X7_forumOf 45 rfl) (by decide) h (fun h => ?_) (fun h => ?_)
  · exact wr_wk [true, true, true, false, false, true, true, false] (g_X7_forumOf_102 l E k8 x0 x1 x2 x5 x6 σ _ hx0 hk8 h)
  · refine wr_iload (wg_da dt_X7_forumOf 46 rfl) rfl ?_
    refine wr_if_eq 109 (wg_da dt_X7_forumOf 47 rfl) (by decide) h (fun h => ?_) (fun h => ?_)
    · exact wr_wk [true, true, true, true, true, true, false, false] (g_X7_forumOf_109 l E k8 x0 x1 x2 x3 x4 x5 σ _ hx0 hk8 h)
    · exact wr_wk [true, true, true, false, false, true, true, false] (g_X7_forumOf_102 l E k8 x0 x1 x2 x5 x6 σ _ hx0 hk8 h)
set_option maxRecDepth 20000 in
theorem g_X7_forumOf_8 (l : Launch) (E : wg_E)  (z : Int32 × wg_M) : ∀ (n : Nat) (x0 : Nat) (x1 : Int32) (x2 : Int32) (x3 : Int32) (x4 : Int32) (x5 : Int32) (σ : wg_M) (hx0 : wg_t Sc x0 = 9) (h : f_X7_forumOf_8  n x0 x1 x2 x3 x4 x5 σ = some z), wg_G l E Sc "WornWigs$Thought" cX7_forumOf 8 (some .int) rm_X7_forumOf (some z.1) z.2 8 [some (.ref x0), some (.int x1), some (.int x2), some (.int x3), some (.int x4), some (.int x5), none, none] [] σ := by
  intro n
  induction n with
  | zero => intro x0 x1 x2 x3 x4 x5 σ hx0 h; cases h
  | succ n ih =>
    intro x0 x1 x2 x3 x4 x5 σ hx0 h
    refine wr_iload (wg_da dt_X7_forumOf 6 rfl) rfl ?_
    refine wr_aload_n (wg_da dt_X7_forumOf 7 rfl) rfl ?_
    refine wr_getR wf_X7_9 (wg_da dt_X7_forumOf 8 rfl) hx0 ?_
    refine wr_getR wf_X7_19 (wg_da dt_X7_forumOf 9 rfl) (wg_ty Sc_ok 7 0 12 hx0 rfl (by decide)).2 ?_
    refine wr_getR wf_X7_25 (wg_da dt_X7_forumOf 10 rfl) (wg_ty Sc_ok 10 0 2 (wg_ty Sc_ok 7 0 12 hx0 rfl (by decide)).2 rfl (by decide)).2 ?_
    refine wr_getI wf_X7_31 (wg_da dt_X7_forumOf 11 rfl) (wg_ty Sc_ok 0 1 4 (wg_ty Sc_ok 10 0 2 (wg_ty Sc_ok 7 0 12 hx0 rfl (by decide)).2 rfl (by decide)).2 rfl (by decide)).2 ?_
    refine wr_icmp_ge 115 (wg_da dt_X7_forumOf 12 rfl) (by decide) h (fun h => ?_) (fun h => ?_)
    · refine wr_iload_n (wg_da dt_X7_forumOf 54 rfl) rfl ?_
      exact wr_iret (wg_da dt_X7_forumOf 55 rfl) h
    · refine wr_aload_n (wg_da dt_X7_forumOf 13 rfl) rfl ?_
      refine wr_getR wf_X7_9 (wg_da dt_X7_forumOf 14 rfl) hx0 ?_
      refine wr_getR wf_X7_19 (wg_da dt_X7_forumOf 15 rfl) (wg_ty Sc_ok 7 0 12 hx0 rfl (by decide)).2 ?_
      refine wr_getR wf_X7_25 (wg_da dt_X7_forumOf 16 rfl) (wg_ty Sc_ok 10 0 2 (wg_ty Sc_ok 7 0 12 hx0 rfl (by decide)).2 rfl (by decide)).2 ?_
      refine wr_iload (wg_da dt_X7_forumOf 17 rfl) rfl ?_
      refine wr_callVi [.int x5] [] (wg_da dt_X7_forumOf 18 rfl) ⟨wq_5_114, wq_3_126, wq_3_127⟩ (wg_ty Sc_ok 0 1 4 (wg_ty Sc_ok 10 0 2 (wg_ty Sc_ok 7 0 12 hx0 rfl (by decide)).2 rfl (by decide)).2 rfl (by decide)).2 ⟨rfl, by decide⟩ wy_X2_lives (fun q hq => m_X2_lives l E (wg_r Sc (wg_r Sc (wg_r Sc x0 0) 0) 1) x5 (wg_ty Sc_ok 0 1 4 (wg_ty Sc_ok 10 0 2 (wg_ty Sc_ok 7 0 12 hx0 rfl (by decide)).2 rfl (by decide)).2 rfl (by decide)).2 _ q hq) rfl rfl (Nat.le_of_ble_eq_true rfl) ⟨rfl, rfl, by decide, by decide⟩ h (fun v1 s2 h => ?_)
      refine wr_if_ne 47 (wg_da dt_X7_forumOf 19 rfl) (by decide) h (fun h => ?_) (fun h => ?_)
      · refine wr_goto 109 (wg_da dt_X7_forumOf 20 rfl) (by decide) ?_
        exact wr_wk [true, true, true, true, true, true, false, false] (g_X7_forumOf_109 l E (f_X7_forumOf_8  n) x0 x1 x2 x3 x4 x5 s2 _ hx0 (fun x0 x1 x2 x3 x4 x5 σ hx0 h => ih x0 x1 x2 x3 x4 x5 σ hx0 h) h)
      · refine wr_aload_n (wg_da dt_X7_forumOf 21 rfl) rfl ?_
        refine wr_getR wf_X7_15 (wg_da dt_X7_forumOf 22 rfl) hx0 ?_
        refine wr_iload_n (wg_da dt_X7_forumOf 23 rfl) rfl ?_
        refine wr_iload (wg_da dt_X7_forumOf 24 rfl) rfl ?_
        refine wr_callVi [.int x1, .int x5] [] (wg_da dt_X7_forumOf 25 rfl) ⟨wq_5_115, wq_3_161, wq_3_162⟩ (wg_ty Sc_ok 7 1 3 hx0 rfl (by decide)).2 ⟨rfl, by decide⟩ wy_X1_verdictOf (fun q hq => m_X1_verdictOf l E (wg_r Sc x0 1) x1 x5 (wg_ty Sc_ok 7 1 3 hx0 rfl (by decide)).2 _ q hq) rfl rfl (Nat.le_of_ble_eq_true rfl) ⟨rfl, rfl, by decide, by decide⟩ h (fun v3 s4 h => ?_)
        refine wr_istore (wg_da dt_X7_forumOf 26 rfl) (by decide) ?_
        refine wr_iload_n (wg_da dt_X7_forumOf 27 rfl) rfl ?_
        refine wr_if_eq 78 (wg_da dt_X7_forumOf 28 rfl) (by decide) h (fun h => ?_) (fun h => ?_)
        · refine wr_iload (wg_da dt_X7_forumOf 36 rfl) rfl ?_
          refine wr_iload (wg_da dt_X7_forumOf 37 rfl) rfl ?_
          refine wr_icmp_ge 89 (wg_da dt_X7_forumOf 38 rfl) (by decide) h (fun h => ?_) (fun h => ?_)
          · refine wr_iconst (0 : Int32) (wg_da dt_X7_forumOf 41 rfl) (by decide) ?_
            exact wr_wk [true, true, true, true, true, true, true, false] (g_X7_forumOf_90 l E (f_X7_forumOf_8  n) x0 x1 x2 x3 x4 x5 v3 (0 : Int32) s4 _ hx0 (fun x0 x1 x2 x3 x4 x5 σ hx0 h => ih x0 x1 x2 x3 x4 x5 σ hx0 h) h)
          · refine wr_iconst (1 : Int32) (wg_da dt_X7_forumOf 39 rfl) (by decide) ?_
            refine wr_goto 90 (wg_da dt_X7_forumOf 40 rfl) (by decide) ?_
            exact wr_wk [true, true, true, true, true, true, true, false] (g_X7_forumOf_90 l E (f_X7_forumOf_8  n) x0 x1 x2 x3 x4 x5 v3 (1 : Int32) s4 _ hx0 (fun x0 x1 x2 x3 x4 x5 σ hx0 h => ih x0 x1 x2 x3 x4 x5 σ hx0 h) h)
        · refine wr_iload (wg_da dt_X7_forumOf 29 rfl) rfl ?_
          refine wr_iload (wg_da dt_X7_forumOf 30 rfl) rfl ?_
          refine wr_icmp_le 74 (wg_da dt_X7_forumOf 31 rfl) (by decide) h (fun h => ?_) (fun h => ?_)
          · refine wr_iconst (0 : Int32) (wg_da dt_X7_forumOf 34 rfl) (by decide) ?_
            refine wr_goto 90 (wg_da dt_X7_forumOf 35 rfl) (by decide) ?_
            exact wr_wk [true, true, true, true, true, true, true, false] (g_X7_forumOf_90 l E (f_X7_forumOf_8  n) x0 x1 x2 x3 x4 x5 v3 (0 : Int32) s4 _ hx0 (fun x0 x1 x2 x3 x4 x5 σ hx0 h => ih x0 x1 x2 x3 x4 x5 σ hx0 h) h)
          · refine wr_iconst (1 : Int32) (wg_da dt_X7_forumOf 32 rfl) (by decide) ?_
            refine wr_goto 90 (wg_da dt_X7_forumOf 33 rfl) (by decide) ?_
            exact wr_wk [true, true, true, true, true, true, true, false] (g_X7_forumOf_90 l E (f_X7_forumOf_8  n) x0 x1 x2 x3 x4 x5 v3 (1 : Int32) s4 _ hx0 (fun x0 x1 x2 x3 x4 x5 σ hx0 h => ih x0 x1 x2 x3 x4 x5 σ hx0 h) h)
set_option maxRecDepth 20000 in
theorem g_X7_forumOf_e (l : Launch) (E : wg_E)  (x0 : Nat) (x1 : Int32) (x2 : Int32) (σ : wg_M) (z : Int32 × wg_M) (hx0 : wg_t Sc x0 = 9) (h : f_X7_forumOf  x0 x1 x2 σ = some z) : wg_G l E Sc "WornWigs$Thought" cX7_forumOf 8 (some .int) rm_X7_forumOf (some z.1) z.2 0 [some (.ref x0), some (.int x1), some (.int x2), none, none, none, none, none] [] σ := by
  refine wr_iconst (-1 : Int32) (wg_da dt_X7_forumOf 0 rfl) (by decide) ?_
  refine wr_istore_n (wg_da dt_X7_forumOf 1 rfl) (by decide) ?_
  refine wr_iconst (0 : Int32) (wg_da dt_X7_forumOf 2 rfl) (by decide) ?_
  refine wr_istore (wg_da dt_X7_forumOf 3 rfl) (by decide) ?_
  refine wr_iconst (0 : Int32) (wg_da dt_X7_forumOf 4 rfl) (by decide) ?_
  refine wr_istore (wg_da dt_X7_forumOf 5 rfl) (by decide) ?_
  exact wr_wk [true, true, true, true, true, true, false, false] (g_X7_forumOf_8 l E  _  wg_N x0 x1 x2 (-1 : Int32) (0 : Int32) (0 : Int32) σ hx0 h)
theorem m_X7_forumOf (l : Launch) (E : wg_E) (x0 : Nat) (x1 : Int32) (x2 : Int32) (hx0 : wg_t Sc x0 = 9) (σ : wg_M) (q : Int32 × wg_M) (h : f_X7_forumOf x0 x1 x2 σ = some q) : wg_MG l E Sc yX7_forumOf cX7_forumOf 8 (some .int) rm_X7_forumOf [.ref x0, .int x1, .int x2] σ (some q.1) q.2 :=
  wg_met [.ref x0, .int x1, .int x2] (plainFor_of_name (by decide)) (Nat.le_of_ble_eq_true rfl) (g_X7_forumOf_e l E x0 x1 x2 σ q hx0 h)
abbrev rm_X7_finders : Room := { frames := 5, cells := 0, slots := 0, locals := 123 }
def tb_X7_finders : List (Nat × Instr × Nat) := [(0, .iconst 0, 1), (1, .istore 4, 2), (3, .iconst 0, 1), (4, .istore 5, 2), (6, .iload 5, 2), (8, .aload_n 0, 1), (9, .getfield 9, 3), (12, .getfield 19, 3), (15, .getfield 25, 3), (18, .getfield 31, 3), (21, .if_icmp .ge 70, 3), (24, .iload 5, 2), (26, .iload_n 3, 1), (27, .if_icmp .eq 25, 3), (30, .aload_n 0, 1), (31, .getfield 9, 3), (34, .getfield 19, 3), (37, .getfield 25, 3), (40, .iload 5, 2), (42, .invokevirtual 37, 3), (45, .ifCond .eq 7, 3), (48, .iconst 1, 1), (49, .goto 4, 3), (52, .iconst 0, 1), (53, .istore 6, 2), (55, .iload 6, 2), (57, .ifCond .eq 28, 3), (60, .aload_n 0, 1), (61, .getfield 15, 3), (64, .iload_n 1, 1), (65, .iload 5, 2), (67, .invokevirtual 41, 3), (70, .ifCond .le 7, 3), (73, .iconst 1, 1), (74, .goto 4, 3), (77, .iconst 0, 1), (78, .iload_n 2, 1), (79, .if_icmp .ne 6, 3), (82, .iinc 4 1, 3), (85, .iinc 5 1, 3), (88, .goto (-82), 3), (91, .iload 4, 2), (93, .ireturn, 1)]
theorem dt_X7_finders : wg_dc cX7_finders tb_X7_finders := by unfold wg_dc; decide +kernel
def f_X7_finders_85 (k6 : Nat → Int32 → Int32 → Int32 → Int32 → Int32 → wg_M → Option (Int32 × wg_M)) (x0 : Nat) (x1 : Int32) (x2 : Int32) (x3 : Int32) (x4 : Int32) (x5 : Int32) (σ : wg_M) : Option (Int32 × wg_M) := wg_let (x5 + (1 : Int32)) (fun v1 => k6 x0 x1 x2 x3 x4 v1 σ)
def f_X7_finders_78 (k6 : Nat → Int32 → Int32 → Int32 → Int32 → Int32 → wg_M → Option (Int32 × wg_M)) (x0 : Nat) (x1 : Int32) (x2 : Int32) (x3 : Int32) (x4 : Int32) (x5 : Int32) (t0 : Int32) (σ : wg_M) : Option (Int32 × wg_M) := if t0 = x2 then (wg_let (x4 + (1 : Int32)) (fun v1 => f_X7_finders_85 k6 x0 x1 x2 x3 v1 x5 σ)) else (f_X7_finders_85 k6 x0 x1 x2 x3 x4 x5 σ)
def f_X7_finders_53 (k6 : Nat → Int32 → Int32 → Int32 → Int32 → Int32 → wg_M → Option (Int32 × wg_M)) (x0 : Nat) (x1 : Int32) (x2 : Int32) (x3 : Int32) (x4 : Int32) (x5 : Int32) (t0 : Int32) (σ : wg_M) : Option (Int32 × wg_M) := if t0 = 0 then (f_X7_finders_85 k6 x0 x1 x2 x3 x4 x5 σ) else (wg_bd (f_X1_verdictOf (wg_r Sc x0 1) x1 x5 σ) (fun v1 s2 => if v1 ≤ 0 then (f_X7_finders_78 k6 x0 x1 x2 x3 x4 x5 (0 : Int32) s2) else (f_X7_finders_78 k6 x0 x1 x2 x3 x4 x5 (1 : Int32) s2)))
def f_X7_finders_52 (k6 : Nat → Int32 → Int32 → Int32 → Int32 → Int32 → wg_M → Option (Int32 × wg_M)) (x0 : Nat) (x1 : Int32) (x2 : Int32) (x3 : Int32) (x4 : Int32) (x5 : Int32) (σ : wg_M) : Option (Int32 × wg_M) := f_X7_finders_53 k6 x0 x1 x2 x3 x4 x5 (0 : Int32) σ
def f_X7_finders_6  : Nat → Nat → Int32 → Int32 → Int32 → Int32 → Int32 → wg_M → Option (Int32 × wg_M)
  | 0, _, _, _, _, _, _, _ => none
  | n + 1, x0, x1, x2, x3, x4, x5, σ => if (σ (wg_r Sc (wg_r Sc (wg_r Sc x0 0) 0) 1) 5) ≤ x5 then (some (x4, σ)) else (if x5 = x3 then (f_X7_finders_52 (f_X7_finders_6  n) x0 x1 x2 x3 x4 x5 σ) else (wg_bd (f_X2_lives (wg_r Sc (wg_r Sc (wg_r Sc x0 0) 0) 1) x5 σ) (fun v1 s2 => if v1 = 0 then (f_X7_finders_52 (f_X7_finders_6  n) x0 x1 x2 x3 x4 x5 s2) else (f_X7_finders_53 (f_X7_finders_6  n) x0 x1 x2 x3 x4 x5 (1 : Int32) s2))))
def f_X7_finders  (x0 : Nat) (x1 : Int32) (x2 : Int32) (x3 : Int32) (σ : wg_M) : Option (Int32 × wg_M) := f_X7_finders_6  wg_N x0 x1 x2 x3 (0 : Int32) (0 : Int32) σ
set_option maxRecDepth 20000 in
theorem g_X7_finders_85 (l : Launch) (E : wg_E) (k6 : Nat → Int32 → Int32 → Int32 → Int32 → Int32 → wg_M → Option (Int32 × wg_M)) (x0 : Nat) (x1 : Int32) (x2 : Int32) (x3 : Int32) (x4 : Int32) (x5 : Int32) (σ : wg_M) (z : Int32 × wg_M) (hx0 : wg_t Sc x0 = 9) (hk6 : ∀ (x0 : Nat) (x1 : Int32) (x2 : Int32) (x3 : Int32) (x4 : Int32) (x5 : Int32) (σ : wg_M), wg_t Sc x0 = 9 → k6 x0 x1 x2 x3 x4 x5 σ = some z → wg_G l E Sc "WornWigs$Thought" cX7_finders 7 (some .int) rm_X7_finders (some z.1) z.2 6 [some (.ref x0), some (.int x1), some (.int x2), some (.int x3), some (.int x4), some (.int x5), none] [] σ) (h : f_X7_finders_85 k6 x0 x1 x2 x3 x4 x5 σ = some z) : wg_G l E Sc "WornWigs$Thought" cX7_finders 7 (some .int) rm_X7_finders (some z.1) z.2 85 [some (.ref x0), some (.int x1), some (.int x2), some (.int x3), some (.int x4), some (.int x5), none] [] σ := by
  refine wr_iinc (c0 := (1 : Int32)) (wg_da dt_X7_finders 39 rfl) rfl (by decide) (by decide) h (fun v1 h => ?_)
  refine wr_goto 6 (wg_da dt_X7_finders 40 rfl) (by decide) ?_
  exact wr_wk [true, true, true, true, true, true, false] (hk6 x0 x1 x2 x3 x4 v1 σ hx0 h)
set_option maxRecDepth 20000 in
theorem g_X7_finders_78 (l : Launch) (E : wg_E) (k6 : Nat → Int32 → Int32 → Int32 → Int32 → Int32 → wg_M → Option (Int32 × wg_M)) (x0 : Nat) (x1 : Int32) (x2 : Int32) (x3 : Int32) (x4 : Int32) (x5 : Int32) (t0 : Int32) (σ : wg_M) (z : Int32 × wg_M) (hx0 : wg_t Sc x0 = 9) (hk6 : ∀ (x0 : Nat) (x1 : Int32) (x2 : Int32) (x3 : Int32) (x4 : Int32) (x5 : Int32) (σ : wg_M), wg_t Sc x0 = 9 → k6 x0 x1 x2 x3 x4 x5 σ = some z → wg_G l E Sc "WornWigs$Thought" cX7_finders 7 (some .int) rm_X7_finders (some z.1) z.2 6 [some (.ref x0), some (.int x1), some (.int x2), some (.int x3), some (.int x4), some (.int x5), none] [] σ) (h : f_X7_finders_78 k6 x0 x1 x2 x3 x4 x5 t0 σ = some z) : wg_G l E Sc "WornWigs$Thought" cX7_finders 7 (some .int) rm_X7_finders (some z.1) z.2 78 [some (.ref x0), some (.int x1), some (.int x2), some (.int x3), some (.int x4), some (.int x5), none] [.int t0] σ := by
  refine wr_iload_n (wg_da dt_X7_finders 36 rfl) rfl ?_
  refine wr_icmp_ne 85 (wg_da dt_X7_finders 37 rfl) (by decide) h (fun h => ?_) (fun h => ?_)
  · refine wr_iinc (c0 := (1 : Int32)) (wg_da dt_X7_finders 38 rfl) rfl (by decide) (by decide) h (fun v1 h => ?_)
    exact wr_wk [true, true, true, true, true, true, false] (g_X7_finders_85 l E k6 x0 x1 x2 x3 v1 x5 σ _ hx0 hk6 h)
  · exact wr_wk [true, true, true, true, true, true, false] (g_X7_finders_85 l E k6 x0 x1 x2 x3 x4 x5 σ _ hx0 hk6 h)
set_option maxRecDepth 20000 in
theorem g_X7_finders_53 (l : Launch) (E : wg_E) (k6 : Nat → Int32 → Int32 → Int32 → Int32 → Int32 → wg_M → Option (Int32 × wg_M)) (x0 : Nat) (x1 : Int32) (x2 : Int32) (x3 : Int32) (x4 : Int32) (x5 : Int32) (t0 : Int32) (σ : wg_M) (z : Int32 × wg_M) (hx0 : wg_t Sc x0 = 9) (hk6 : ∀ (x0 : Nat) (x1 : Int32) (x2 : Int32) (x3 : Int32) (x4 : Int32) (x5 : Int32) (σ : wg_M), wg_t Sc x0 = 9 → k6 x0 x1 x2 x3 x4 x5 σ = some z → wg_G l E Sc "WornWigs$Thought" cX7_finders 7 (some .int) rm_X7_finders (some z.1) z.2 6 [some (.ref x0), some (.int x1), some (.int x2), some (.int x3), some (.int x4), some (.int x5), none] [] σ) (h : f_X7_finders_53 k6 x0 x1 x2 x3 x4 x5 t0 σ = some z) : wg_G l E Sc "WornWigs$Thought" cX7_finders 7 (some .int) rm_X7_finders (some z.1) z.2 53 [some (.ref x0), some (.int x1), some (.int x2), some (.int x3), some (.int x4), some (.int x5), none] [.int t0] σ := by
  refine wr_istore (wg_da dt_X7_finders 24 rfl) (by decide) ?_
  refine wr_iload (wg_da dt_X7_finders 25 rfl) rfl ?_
  refine wr_if_eq 85 (wg_da dt_X7_finders 26 rfl) (by decide) h (fun h => ?_) (fun h => ?_)
  · exact wr_wk [true, true, true, true, true, true, false] (g_X7_finders_85 l E k6 x0 x1 x2 x3 x4 x5 σ _ hx0 hk6 h)
  · refine wr_aload_n (wg_da dt_X7_finders 27 rfl) rfl ?_
    refine wr_getR wf_X7_15 (wg_da dt_X7_finders 28 rfl) hx0 ?_
    refine wr_iload_n (wg_da dt_X7_finders 29 rfl) rfl ?_
    refine wr_iload (wg_da dt_X7_finders 30 rfl) rfl ?_
    refine wr_callVi [.int x1, .int x5] [] (wg_da dt_X7_finders 31 rfl) ⟨wq_5_115, wq_3_161, wq_3_162⟩ (wg_ty Sc_ok 7 1 3 hx0 rfl (by decide)).2 ⟨rfl, by decide⟩ wy_X1_verdictOf (fun q hq => m_X1_verdictOf l E (wg_r Sc x0 1) x1 x5 (wg_ty Sc_ok 7 1 3 hx0 rfl (by decide)).2 _ q hq) rfl rfl (Nat.le_of_ble_eq_true rfl) ⟨rfl, rfl, by decide, by decide⟩ h (fun v1 s2 h => ?_)
    refine wr_if_le 77 (wg_da dt_X7_finders 32 rfl) (by decide) h (fun h => ?_) (fun h => ?_)
    · refine wr_iconst (0 : Int32) (wg_da dt_X7_finders 35 rfl) (by decide) ?_
      exact wr_wk [true, true, true, true, true, true, false] (g_X7_finders_78 l E k6 x0 x1 x2 x3 x4 x5 (0 : Int32) s2 _ hx0 hk6 h)
    · refine wr_iconst (1 : Int32) (wg_da dt_X7_finders 33 rfl) (by decide) ?_
      refine wr_goto 78 (wg_da dt_X7_finders 34 rfl) (by decide) ?_
      exact wr_wk [true, true, true, true, true, true, false] (g_X7_finders_78 l E k6 x0 x1 x2 x3 x4 x5 (1 : Int32) s2 _ hx0 hk6 h)
set_option maxRecDepth 20000 in
theorem g_X7_finders_52 (l : Launch) (E : wg_E) (k6 : Nat → Int32 → Int32 → Int32 → Int32 → Int32 → wg_M → Option (Int32 × wg_M)) (x0 : Nat) (x1 : Int32) (x2 : Int32) (x3 : Int32) (x4 : Int32) (x5 : Int32) (σ : wg_M) (z : Int32 × wg_M) (hx0 : wg_t Sc x0 = 9) (hk6 : ∀ (x0 : Nat) (x1 : Int32) (x2 : Int32) (x3 : Int32) (x4 : Int32) (x5 : Int32) (σ : wg_M), wg_t Sc x0 = 9 → k6 x0 x1 x2 x3 x4 x5 σ = some z → wg_G l E Sc "WornWigs$Thought" cX7_finders 7 (some .int) rm_X7_finders (some z.1) z.2 6 [some (.ref x0), some (.int x1), some (.int x2), some (.int x3), some (.int x4), some (.int x5), none] [] σ) (h : f_X7_finders_52 k6 x0 x1 x2 x3 x4 x5 σ = some z) : wg_G l E Sc "WornWigs$Thought" cX7_finders 7 (some .int) rm_X7_finders (some z.1) z.2 52 [some (.ref x0), some (.int x1), some (.int x2), some (.int x3), some (.int x4), some (.int x5), none] [] σ := by
  refine wr_iconst (0 : Int32) (wg_da dt_X7_finders 23 rfl) (by decide) ?_
  exact wr_wk [true, true, true, true, true, true, false] (g_X7_finders_53 l E k6 x0 x1 x2 x3 x4 x5 (0 : Int32) σ _ hx0 hk6 h)
set_option maxRecDepth 20000 in
theorem g_X7_finders_6 (l : Launch) (E : wg_E)  (z : Int32 × wg_M) : ∀ (n : Nat) (x0 : Nat) (x1 : Int32) (x2 : Int32) (x3 : Int32) (x4 : Int32) (x5 : Int32) (σ : wg_M) (hx0 : wg_t Sc x0 = 9) (h : f_X7_finders_6  n x0 x1 x2 x3 x4 x5 σ = some z), wg_G l E Sc "WornWigs$Thought" cX7_finders 7 (some .int) rm_X7_finders (some z.1) z.2 6 [some (.ref x0), some (.int x1), some (.int x2), some (.int x3), some (.int x4), some (.int x5), none] [] σ := by
  intro n
  induction n with
  | zero => intro x0 x1 x2 x3 x4 x5 σ hx0 h; cases h
  | succ n ih =>
    intro x0 x1 x2 x3 x4 x5 σ hx0 h
    refine wr_iload (wg_da dt_X7_finders 4 rfl) rfl ?_
    refine wr_aload_n (wg_da dt_X7_finders 5 rfl) rfl ?_
    refine wr_getR wf_X7_9 (wg_da dt_X7_finders 6 rfl) hx0 ?_
    refine wr_getR wf_X7_19 (wg_da dt_X7_finders 7 rfl) (wg_ty Sc_ok 7 0 12 hx0 rfl (by decide)).2 ?_
    refine wr_getR wf_X7_25 (wg_da dt_X7_finders 8 rfl) (wg_ty Sc_ok 10 0 2 (wg_ty Sc_ok 7 0 12 hx0 rfl (by decide)).2 rfl (by decide)).2 ?_
    refine wr_getI wf_X7_31 (wg_da dt_X7_finders 9 rfl) (wg_ty Sc_ok 0 1 4 (wg_ty Sc_ok 10 0 2 (wg_ty Sc_ok 7 0 12 hx0 rfl (by decide)).2 rfl (by decide)).2 rfl (by decide)).2 ?_
    refine wr_icmp_ge 91 (wg_da dt_X7_finders 10 rfl) (by decide) h (fun h => ?_) (fun h => ?_)
    · refine wr_iload (wg_da dt_X7_finders 41 rfl) rfl ?_
      exact wr_iret (wg_da dt_X7_finders 42 rfl) h
    · refine wr_iload (wg_da dt_X7_finders 11 rfl) rfl ?_
      refine wr_iload_n (wg_da dt_X7_finders 12 rfl) rfl ?_
      refine wr_icmp_eq 52 (wg_da dt_X7_finders 13 rfl) (by decide) h (fun h => ?_) (fun h => ?_)
      · exact wr_wk [true, true, true, true, true, true, false] (g_X7_finders_52 l E (f_X7_finders_6  n) x0 x1 x2 x3 x4 x5 σ _ hx0 (fun x0 x1 x2 x3 x4 x5 σ hx0 h => ih x0 x1 x2 x3 x4 x5 σ hx0 h) h)
      · refine wr_aload_n (wg_da dt_X7_finders 14 rfl) rfl ?_
        refine wr_getR wf_X7_9 (wg_da dt_X7_finders 15 rfl) hx0 ?_
        refine wr_getR wf_X7_19 (wg_da dt_X7_finders 16 rfl) (wg_ty Sc_ok 7 0 12 hx0 rfl (by decide)).2 ?_
        refine wr_getR wf_X7_25 (wg_da dt_X7_finders 17 rfl) (wg_ty Sc_ok 10 0 2 (wg_ty Sc_ok 7 0 12 hx0 rfl (by decide)).2 rfl (by decide)).2 ?_
        refine wr_iload (wg_da dt_X7_finders 18 rfl) rfl ?_
        refine wr_callVi [.int x5] [] (wg_da dt_X7_finders 19 rfl) ⟨wq_5_114, wq_3_126, wq_3_127⟩ (wg_ty Sc_ok 0 1 4 (wg_ty Sc_ok 10 0 2 (wg_ty Sc_ok 7 0 12 hx0 rfl (by decide)).2 rfl (by decide)).2 rfl (by decide)).2 ⟨rfl, by decide⟩ wy_X2_lives (fun q hq => m_X2_lives l E (wg_r Sc (wg_r Sc (wg_r Sc x0 0) 0) 1) x5 (wg_ty Sc_ok 0 1 4 (wg_ty Sc_ok 10 0 2 (wg_ty Sc_ok 7 0 12 hx0 rfl (by decide)).2 rfl (by decide)).2 rfl (by decide)).2 _ q hq) rfl rfl (Nat.le_of_ble_eq_true rfl) ⟨rfl, rfl, by decide, by decide⟩ h (fun v1 s2 h => ?_)
        refine wr_if_eq 52 (wg_da dt_X7_finders 20 rfl) (by decide) h (fun h => ?_) (fun h => ?_)
        · exact wr_wk [true, true, true, true, true, true, false] (g_X7_finders_52 l E (f_X7_finders_6  n) x0 x1 x2 x3 x4 x5 s2 _ hx0 (fun x0 x1 x2 x3 x4 x5 σ hx0 h => ih x0 x1 x2 x3 x4 x5 σ hx0 h) h)
        · refine wr_iconst (1 : Int32) (wg_da dt_X7_finders 21 rfl) (by decide) ?_
          refine wr_goto 53 (wg_da dt_X7_finders 22 rfl) (by decide) ?_
          exact wr_wk [true, true, true, true, true, true, false] (g_X7_finders_53 l E (f_X7_finders_6  n) x0 x1 x2 x3 x4 x5 (1 : Int32) s2 _ hx0 (fun x0 x1 x2 x3 x4 x5 σ hx0 h => ih x0 x1 x2 x3 x4 x5 σ hx0 h) h)
set_option maxRecDepth 20000 in
theorem g_X7_finders_e (l : Launch) (E : wg_E)  (x0 : Nat) (x1 : Int32) (x2 : Int32) (x3 : Int32) (σ : wg_M) (z : Int32 × wg_M) (hx0 : wg_t Sc x0 = 9) (h : f_X7_finders  x0 x1 x2 x3 σ = some z) : wg_G l E Sc "WornWigs$Thought" cX7_finders 7 (some .int) rm_X7_finders (some z.1) z.2 0 [some (.ref x0), some (.int x1), some (.int x2), some (.int x3), none, none, none] [] σ := by
  refine wr_iconst (0 : Int32) (wg_da dt_X7_finders 0 rfl) (by decide) ?_
  refine wr_istore (wg_da dt_X7_finders 1 rfl) (by decide) ?_
  refine wr_iconst (0 : Int32) (wg_da dt_X7_finders 2 rfl) (by decide) ?_
  refine wr_istore (wg_da dt_X7_finders 3 rfl) (by decide) ?_
  exact wr_wk [true, true, true, true, true, true, false] (g_X7_finders_6 l E  _  wg_N x0 x1 x2 x3 (0 : Int32) (0 : Int32) σ hx0 h)
theorem m_X7_finders (l : Launch) (E : wg_E) (x0 : Nat) (x1 : Int32) (x2 : Int32) (x3 : Int32) (hx0 : wg_t Sc x0 = 9) (σ : wg_M) (q : Int32 × wg_M) (h : f_X7_finders x0 x1 x2 x3 σ = some q) : wg_MG l E Sc yX7_finders cX7_finders 7 (some .int) rm_X7_finders [.ref x0, .int x1, .int x2, .int x3] σ (some q.1) q.2 :=
  wg_met [.ref x0, .int x1, .int x2, .int x3] (plainFor_of_name (by decide)) (Nat.le_of_ble_eq_true rfl) (g_X7_finders_e l E x0 x1 x2 x3 σ q hx0 h)
abbrev rm_X7_panelsFor : Room := { frames := 6, cells := 0, slots := 0, locals := 149 }
def tb_X7_panelsFor : List (Nat × Instr × Nat) := [(0, .aload_n 0, 1), (1, .iload_n 1, 1), (2, .iconst 1, 1), (3, .iconst (-1), 1), (4, .invokevirtual 47, 3), (7, .istore_n 2, 1), (8, .aload_n 0, 1), (9, .iload_n 1, 1), (10, .iconst 0, 1), (11, .iconst (-1), 1), (12, .invokevirtual 47, 3), (15, .istore_n 3, 1), (16, .iload_n 2, 1), (17, .iload_n 2, 1), (18, .iconst 1, 1), (19, .isub, 1), (20, .imul, 1), (21, .iload_n 2, 1), (22, .iconst 2, 1), (23, .isub, 1), (24, .imul, 1), (25, .bipush 6, 2), (27, .idiv, 1), (28, .iload_n 2, 1), (29, .iload_n 2, 1), (30, .iconst 1, 1), (31, .isub, 1), (32, .imul, 1), (33, .iconst 2, 1), (34, .idiv, 1), (35, .iload_n 3, 1), (36, .imul, 1), (37, .iadd, 1), (38, .ireturn, 1)]
theorem dt_X7_panelsFor : wg_dc cX7_panelsFor tb_X7_panelsFor := by unfold wg_dc; decide +kernel
def f_X7_panelsFor  (x0 : Nat) (x1 : Int32) (σ : wg_M) : Option (Int32 × wg_M) := wg_bd (f_X7_finders x0 x1 (1 : Int32) (-1 : Int32) σ) (fun v1 s2 => wg_bd (f_X7_finders x0 x1 (0 : Int32) (-1 : Int32) s2) (fun v3 s4 => wg_dv ((v1 * (v1 - (1 : Int32))) * (v1 - (2 : Int32))) (6 : Int32) (fun v5 => wg_dv (v1 * (v1 - (1 : Int32))) (2 : Int32) (fun v6 => some (v5 + (v6 * v3), s4)))))
set_option maxRecDepth 20000 in
theorem g_X7_panelsFor_e (l : Launch) (E : wg_E)  (x0 : Nat) (x1 : Int32) (σ : wg_M) (z : Int32 × wg_M) (hx0 : wg_t Sc x0 = 9) (h : f_X7_panelsFor  x0 x1 σ = some z) : wg_G l E Sc "WornWigs$Thought" cX7_panelsFor 4 (some .int) rm_X7_panelsFor (some z.1) z.2 0 [some (.ref x0), some (.int x1), none, none] [] σ := by
  refine wr_aload_n (wg_da dt_X7_panelsFor 0 rfl) rfl ?_
  refine wr_iload_n (wg_da dt_X7_panelsFor 1 rfl) rfl ?_
  refine wr_iconst (1 : Int32) (wg_da dt_X7_panelsFor 2 rfl) (by decide) ?_
  refine wr_iconst (-1 : Int32) (wg_da dt_X7_panelsFor 3 rfl) (by decide) ?_
  refine wr_callVi [.int x1, .int (1 : Int32), .int (-1 : Int32)] [] (wg_da dt_X7_panelsFor 4 rfl) ⟨wq_5_197, wq_5_199, wq_p3_11⟩ hx0 ⟨rfl, by decide⟩ wy_X7_finders (fun q hq => m_X7_finders l E x0 x1 (1 : Int32) (-1 : Int32) hx0 _ q hq) rfl rfl (Nat.le_of_ble_eq_true rfl) ⟨rfl, rfl, by decide, by decide⟩ h (fun v1 s2 h => ?_)
  refine wr_istore_n (wg_da dt_X7_panelsFor 5 rfl) (by decide) ?_
  refine wr_aload_n (wg_da dt_X7_panelsFor 6 rfl) rfl ?_
  refine wr_iload_n (wg_da dt_X7_panelsFor 7 rfl) rfl ?_
  refine wr_iconst (0 : Int32) (wg_da dt_X7_panelsFor 8 rfl) (by decide) ?_
  refine wr_iconst (-1 : Int32) (wg_da dt_X7_panelsFor 9 rfl) (by decide) ?_
  refine wr_callVi [.int x1, .int (0 : Int32), .int (-1 : Int32)] [] (wg_da dt_X7_panelsFor 10 rfl) ⟨wq_5_197, wq_5_199, wq_p3_11⟩ hx0 ⟨rfl, by decide⟩ wy_X7_finders (fun q hq => m_X7_finders l E x0 x1 (0 : Int32) (-1 : Int32) hx0 _ q hq) rfl rfl (Nat.le_of_ble_eq_true rfl) ⟨rfl, rfl, by decide, by decide⟩ h (fun v3 s4 h => ?_)
  refine wr_istore_n (wg_da dt_X7_panelsFor 11 rfl) (by decide) ?_
  refine wr_iload_n (wg_da dt_X7_panelsFor 12 rfl) rfl ?_
  refine wr_iload_n (wg_da dt_X7_panelsFor 13 rfl) rfl ?_
  refine wr_iconst (1 : Int32) (wg_da dt_X7_panelsFor 14 rfl) (by decide) ?_
  refine wr_isub (wg_da dt_X7_panelsFor 15 rfl) ?_
  refine wr_imul (wg_da dt_X7_panelsFor 16 rfl) ?_
  refine wr_iload_n (wg_da dt_X7_panelsFor 17 rfl) rfl ?_
  refine wr_iconst (2 : Int32) (wg_da dt_X7_panelsFor 18 rfl) (by decide) ?_
  refine wr_isub (wg_da dt_X7_panelsFor 19 rfl) ?_
  refine wr_imul (wg_da dt_X7_panelsFor 20 rfl) ?_
  refine wr_bipush (6 : Int32) (wg_da dt_X7_panelsFor 21 rfl) (by decide) ?_
  refine wr_idiv (wg_da dt_X7_panelsFor 22 rfl) h (fun v5 h => ?_)
  refine wr_iload_n (wg_da dt_X7_panelsFor 23 rfl) rfl ?_
  refine wr_iload_n (wg_da dt_X7_panelsFor 24 rfl) rfl ?_
  refine wr_iconst (1 : Int32) (wg_da dt_X7_panelsFor 25 rfl) (by decide) ?_
  refine wr_isub (wg_da dt_X7_panelsFor 26 rfl) ?_
  refine wr_imul (wg_da dt_X7_panelsFor 27 rfl) ?_
  refine wr_iconst (2 : Int32) (wg_da dt_X7_panelsFor 28 rfl) (by decide) ?_
  refine wr_idiv (wg_da dt_X7_panelsFor 29 rfl) h (fun v6 h => ?_)
  refine wr_iload_n (wg_da dt_X7_panelsFor 30 rfl) rfl ?_
  refine wr_imul (wg_da dt_X7_panelsFor 31 rfl) ?_
  refine wr_iadd (wg_da dt_X7_panelsFor 32 rfl) ?_
  exact wr_iret (wg_da dt_X7_panelsFor 33 rfl) h
theorem m_X7_panelsFor (l : Launch) (E : wg_E) (x0 : Nat) (x1 : Int32) (hx0 : wg_t Sc x0 = 9) (σ : wg_M) (q : Int32 × wg_M) (h : f_X7_panelsFor x0 x1 σ = some q) : wg_MG l E Sc yX7_panelsFor cX7_panelsFor 4 (some .int) rm_X7_panelsFor [.ref x0, .int x1] σ (some q.1) q.2 :=
  wg_met [.ref x0, .int x1] (plainFor_of_name (by decide)) (Nat.le_of_ble_eq_true rfl) (g_X7_panelsFor_e l E x0 x1 σ q hx0 h)
abbrev rm_X7_turnsOf : Room := { frames := 6, cells := 0, slots := 0, locals := 149 }
def tb_X7_turnsOf : List (Nat × Instr × Nat) := [(0, .aload_n 0, 1), (1, .getfield 9, 3), (4, .getfield 19, 3), (7, .getfield 25, 3), (10, .iload_n 2, 1), (11, .invokevirtual 37, 3), (14, .ifCond .ne 5, 3), (17, .iconst 0, 1), (18, .ireturn, 1), (19, .aload_n 0, 1), (20, .iload_n 1, 1), (21, .iconst 1, 1), (22, .iload_n 2, 1), (23, .invokevirtual 47, 3), (26, .aload_n 0, 1), (27, .iload_n 1, 1), (28, .iconst 0, 1), (29, .iload_n 2, 1), (30, .invokevirtual 47, 3), (33, .imul, 1), (34, .ireturn, 1)]
theorem dt_X7_turnsOf : wg_dc cX7_turnsOf tb_X7_turnsOf := by unfold wg_dc; decide +kernel
def f_X7_turnsOf  (x0 : Nat) (x1 : Int32) (x2 : Int32) (σ : wg_M) : Option (Int32 × wg_M) := wg_bd (f_X2_lives (wg_r Sc (wg_r Sc (wg_r Sc x0 0) 0) 1) x2 σ) (fun v1 s2 => if v1 = 0 then (some ((0 : Int32), s2)) else (wg_bd (f_X7_finders x0 x1 (1 : Int32) x2 s2) (fun v3 s4 => wg_bd (f_X7_finders x0 x1 (0 : Int32) x2 s4) (fun v5 s6 => some (v3 * v5, s6)))))
set_option maxRecDepth 20000 in
theorem g_X7_turnsOf_e (l : Launch) (E : wg_E)  (x0 : Nat) (x1 : Int32) (x2 : Int32) (σ : wg_M) (z : Int32 × wg_M) (hx0 : wg_t Sc x0 = 9) (h : f_X7_turnsOf  x0 x1 x2 σ = some z) : wg_G l E Sc "WornWigs$Thought" cX7_turnsOf 3 (some .int) rm_X7_turnsOf (some z.1) z.2 0 [some (.ref x0), some (.int x1), some (.int x2)] [] σ := by
  refine wr_aload_n (wg_da dt_X7_turnsOf 0 rfl) rfl ?_
  refine wr_getR wf_X7_9 (wg_da dt_X7_turnsOf 1 rfl) hx0 ?_
  refine wr_getR wf_X7_19 (wg_da dt_X7_turnsOf 2 rfl) (wg_ty Sc_ok 7 0 12 hx0 rfl (by decide)).2 ?_
  refine wr_getR wf_X7_25 (wg_da dt_X7_turnsOf 3 rfl) (wg_ty Sc_ok 10 0 2 (wg_ty Sc_ok 7 0 12 hx0 rfl (by decide)).2 rfl (by decide)).2 ?_
  refine wr_iload_n (wg_da dt_X7_turnsOf 4 rfl) rfl ?_
  refine wr_callVi [.int x2] [] (wg_da dt_X7_turnsOf 5 rfl) ⟨wq_5_114, wq_3_126, wq_3_127⟩ (wg_ty Sc_ok 0 1 4 (wg_ty Sc_ok 10 0 2 (wg_ty Sc_ok 7 0 12 hx0 rfl (by decide)).2 rfl (by decide)).2 rfl (by decide)).2 ⟨rfl, by decide⟩ wy_X2_lives (fun q hq => m_X2_lives l E (wg_r Sc (wg_r Sc (wg_r Sc x0 0) 0) 1) x2 (wg_ty Sc_ok 0 1 4 (wg_ty Sc_ok 10 0 2 (wg_ty Sc_ok 7 0 12 hx0 rfl (by decide)).2 rfl (by decide)).2 rfl (by decide)).2 _ q hq) rfl rfl (Nat.le_of_ble_eq_true rfl) ⟨rfl, rfl, by decide, by decide⟩ h (fun v1 s2 h => ?_)
  refine wr_if_ne 19 (wg_da dt_X7_turnsOf 6 rfl) (by decide) h (fun h => ?_) (fun h => ?_)
  · refine wr_iconst (0 : Int32) (wg_da dt_X7_turnsOf 7 rfl) (by decide) ?_
    exact wr_iret (wg_da dt_X7_turnsOf 8 rfl) h
  · refine wr_aload_n (wg_da dt_X7_turnsOf 9 rfl) rfl ?_
    refine wr_iload_n (wg_da dt_X7_turnsOf 10 rfl) rfl ?_
    refine wr_iconst (1 : Int32) (wg_da dt_X7_turnsOf 11 rfl) (by decide) ?_
    refine wr_iload_n (wg_da dt_X7_turnsOf 12 rfl) rfl ?_
    refine wr_callVi [.int x1, .int (1 : Int32), .int x2] [] (wg_da dt_X7_turnsOf 13 rfl) ⟨wq_5_197, wq_5_199, wq_p3_11⟩ hx0 ⟨rfl, by decide⟩ wy_X7_finders (fun q hq => m_X7_finders l E x0 x1 (1 : Int32) x2 hx0 _ q hq) rfl rfl (Nat.le_of_ble_eq_true rfl) ⟨rfl, rfl, by decide, by decide⟩ h (fun v3 s4 h => ?_)
    refine wr_aload_n (wg_da dt_X7_turnsOf 14 rfl) rfl ?_
    refine wr_iload_n (wg_da dt_X7_turnsOf 15 rfl) rfl ?_
    refine wr_iconst (0 : Int32) (wg_da dt_X7_turnsOf 16 rfl) (by decide) ?_
    refine wr_iload_n (wg_da dt_X7_turnsOf 17 rfl) rfl ?_
    refine wr_callVi [.int x1, .int (0 : Int32), .int x2] [.int v3] (wg_da dt_X7_turnsOf 18 rfl) ⟨wq_5_197, wq_5_199, wq_p3_11⟩ hx0 ⟨rfl, by decide⟩ wy_X7_finders (fun q hq => m_X7_finders l E x0 x1 (0 : Int32) x2 hx0 _ q hq) rfl rfl (Nat.le_of_ble_eq_true rfl) ⟨rfl, rfl, by decide, by decide⟩ h (fun v5 s6 h => ?_)
    refine wr_imul (wg_da dt_X7_turnsOf 19 rfl) ?_
    exact wr_iret (wg_da dt_X7_turnsOf 20 rfl) h
theorem m_X7_turnsOf (l : Launch) (E : wg_E) (x0 : Nat) (x1 : Int32) (x2 : Int32) (hx0 : wg_t Sc x0 = 9) (σ : wg_M) (q : Int32 × wg_M) (h : f_X7_turnsOf x0 x1 x2 σ = some q) : wg_MG l E Sc yX7_turnsOf cX7_turnsOf 3 (some .int) rm_X7_turnsOf [.ref x0, .int x1, .int x2] σ (some q.1) q.2 :=
  wg_met [.ref x0, .int x1, .int x2] (plainFor_of_name (by decide)) (Nat.le_of_ble_eq_true rfl) (g_X7_turnsOf_e l E x0 x1 x2 σ q hx0 h)
abbrev rm_X7_heirOf : Room := { frames := 1, cells := 0, slots := 0, locals := 24 }
def tb_X7_heirOf : List (Nat × Instr × Nat) := [(0, .aload_n 0, 1), (1, .getfield 9, 3), (4, .getfield 19, 3), (7, .getfield 25, 3), (10, .astore_n 3, 1), (11, .aload_n 3, 1), (12, .iload_n 1, 1), (13, .invokevirtual 51, 3), (16, .iconst (-1), 1), (17, .if_icmp .ne 5, 3), (20, .iconst (-1), 1), (21, .ireturn, 1), (22, .iconst 0, 1), (23, .istore 4, 2), (25, .iconst (-1), 1), (26, .istore 5, 2), (28, .iconst 0, 1), (29, .istore 6, 2), (31, .iload 6, 2), (33, .iload_n 2, 1), (34, .if_icmp .ge 34, 3), (37, .aload_n 3, 1), (38, .iload 4, 2), (40, .invokevirtual 55, 3), (43, .istore 5, 2), (45, .iload 5, 2), (47, .iconst (-1), 1), (48, .if_icmp .ne 5, 3), (51, .iconst (-1), 1), (52, .ireturn, 1), (53, .iload 4, 2), (55, .iconst 1, 1), (56, .iload 5, 2), (58, .ishl, 1), (59, .ior, 1), (60, .istore 4, 2), (62, .iinc 6 1, 3), (65, .goto (-34), 3), (68, .iload 5, 2), (70, .ireturn, 1)]
theorem dt_X7_heirOf : wg_dc cX7_heirOf tb_X7_heirOf := by unfold wg_dc; decide +kernel
def f_X7_heirOf_31  : Nat → Int32 → Nat → Int32 → Int32 → Int32 → wg_M → Option (Int32 × wg_M)
  | 0, _, _, _, _, _, _ => none
  | n + 1, x2, x3, x4, x5, x6, σ => if x2 ≤ x6 then (some (x5, σ)) else (wg_bd (f_X2_youngestBare x3 x4 σ) (fun v1 s2 => if v1 = (-1 : Int32) then (some ((-1 : Int32), s2)) else (wg_let (x4 ||| ((1 : Int32) <<< (v1 &&& 31))) (fun v3 => wg_let (x6 + (1 : Int32)) (fun v4 => f_X7_heirOf_31  n x2 x3 v3 v1 v4 s2)))))
def f_X7_heirOf  (x0 : Nat) (x1 : Int32) (x2 : Int32) (σ : wg_M) : Option (Int32 × wg_M) := wg_bd (f_X2_wearer (wg_r Sc (wg_r Sc (wg_r Sc x0 0) 0) 1) x1 σ) (fun v1 s2 => if v1 = (-1 : Int32) then (some ((-1 : Int32), s2)) else (f_X7_heirOf_31  wg_N x2 (wg_r Sc (wg_r Sc (wg_r Sc x0 0) 0) 1) (0 : Int32) (-1 : Int32) (0 : Int32) s2))
set_option maxRecDepth 20000 in
theorem g_X7_heirOf_31 (l : Launch) (E : wg_E)  (z : Int32 × wg_M) : ∀ (n : Nat) (x2 : Int32) (x3 : Nat) (x4 : Int32) (x5 : Int32) (x6 : Int32) (σ : wg_M) (hx3 : wg_t Sc x3 = 4) (h : f_X7_heirOf_31  n x2 x3 x4 x5 x6 σ = some z), wg_G l E Sc "WornWigs$Thought" cX7_heirOf 7 (some .int) rm_X7_heirOf (some z.1) z.2 31 [none, none, some (.int x2), some (.ref x3), some (.int x4), some (.int x5), some (.int x6)] [] σ := by
  intro n
  induction n with
  | zero => intro x2 x3 x4 x5 x6 σ hx3 h; cases h
  | succ n ih =>
    intro x2 x3 x4 x5 x6 σ hx3 h
    refine wr_iload (wg_da dt_X7_heirOf 18 rfl) rfl ?_
    refine wr_iload_n (wg_da dt_X7_heirOf 19 rfl) rfl ?_
    refine wr_icmp_ge 68 (wg_da dt_X7_heirOf 20 rfl) (by decide) h (fun h => ?_) (fun h => ?_)
    · refine wr_iload (wg_da dt_X7_heirOf 38 rfl) rfl ?_
      exact wr_iret (wg_da dt_X7_heirOf 39 rfl) h
    · refine wr_aload_n (wg_da dt_X7_heirOf 21 rfl) rfl ?_
      refine wr_iload (wg_da dt_X7_heirOf 22 rfl) rfl ?_
      refine wr_callVi [.int x4] [] (wg_da dt_X7_heirOf 23 rfl) ⟨wq_5_154, wq_4_54, wq_4_55⟩ hx3 ⟨rfl, by decide⟩ wy_X2_youngestBare (fun q hq => m_X2_youngestBare l E x3 x4 hx3 _ q hq) rfl rfl (Nat.le_of_ble_eq_true rfl) ⟨rfl, rfl, by decide, by decide⟩ h (fun v1 s2 h => ?_)
      refine wr_istore (wg_da dt_X7_heirOf 24 rfl) (by decide) ?_
      refine wr_iload (wg_da dt_X7_heirOf 25 rfl) rfl ?_
      refine wr_iconst (-1 : Int32) (wg_da dt_X7_heirOf 26 rfl) (by decide) ?_
      refine wr_icmp_ne 53 (wg_da dt_X7_heirOf 27 rfl) (by decide) h (fun h => ?_) (fun h => ?_)
      · refine wr_iconst (-1 : Int32) (wg_da dt_X7_heirOf 28 rfl) (by decide) ?_
        exact wr_iret (wg_da dt_X7_heirOf 29 rfl) h
      · refine wr_iload (wg_da dt_X7_heirOf 30 rfl) rfl ?_
        refine wr_iconst (1 : Int32) (wg_da dt_X7_heirOf 31 rfl) (by decide) ?_
        refine wr_iload (wg_da dt_X7_heirOf 32 rfl) rfl ?_
        refine wr_ishl (wg_da dt_X7_heirOf 33 rfl) ?_
        refine wr_ior (wg_da dt_X7_heirOf 34 rfl) ?_
        refine wr_let h (fun v3 h => ?_)
        refine wr_istore (wg_da dt_X7_heirOf 35 rfl) (by decide) ?_
        refine wr_iinc (c0 := (1 : Int32)) (wg_da dt_X7_heirOf 36 rfl) rfl (by decide) (by decide) h (fun v4 h => ?_)
        refine wr_goto 31 (wg_da dt_X7_heirOf 37 rfl) (by decide) ?_
        exact wr_wk [false, false, true, true, true, true, true] (ih x2 x3 v3 v1 v4 s2 hx3 h)
set_option maxRecDepth 20000 in
theorem g_X7_heirOf_e (l : Launch) (E : wg_E)  (x0 : Nat) (x1 : Int32) (x2 : Int32) (σ : wg_M) (z : Int32 × wg_M) (hx0 : wg_t Sc x0 = 9) (h : f_X7_heirOf  x0 x1 x2 σ = some z) : wg_G l E Sc "WornWigs$Thought" cX7_heirOf 7 (some .int) rm_X7_heirOf (some z.1) z.2 0 [some (.ref x0), some (.int x1), some (.int x2), none, none, none, none] [] σ := by
  refine wr_aload_n (wg_da dt_X7_heirOf 0 rfl) rfl ?_
  refine wr_getR wf_X7_9 (wg_da dt_X7_heirOf 1 rfl) hx0 ?_
  refine wr_getR wf_X7_19 (wg_da dt_X7_heirOf 2 rfl) (wg_ty Sc_ok 7 0 12 hx0 rfl (by decide)).2 ?_
  refine wr_getR wf_X7_25 (wg_da dt_X7_heirOf 3 rfl) (wg_ty Sc_ok 10 0 2 (wg_ty Sc_ok 7 0 12 hx0 rfl (by decide)).2 rfl (by decide)).2 ?_
  refine wr_astore_n (wg_da dt_X7_heirOf 4 rfl) (by decide) ?_
  refine wr_aload_n (wg_da dt_X7_heirOf 5 rfl) rfl ?_
  refine wr_iload_n (wg_da dt_X7_heirOf 6 rfl) rfl ?_
  refine wr_callVi [.int x1] [] (wg_da dt_X7_heirOf 7 rfl) ⟨wq_5_153, wq_3_232, wq_3_233⟩ (wg_ty Sc_ok 0 1 4 (wg_ty Sc_ok 10 0 2 (wg_ty Sc_ok 7 0 12 hx0 rfl (by decide)).2 rfl (by decide)).2 rfl (by decide)).2 ⟨rfl, by decide⟩ wy_X2_wearer (fun q hq => m_X2_wearer l E (wg_r Sc (wg_r Sc (wg_r Sc x0 0) 0) 1) x1 (wg_ty Sc_ok 0 1 4 (wg_ty Sc_ok 10 0 2 (wg_ty Sc_ok 7 0 12 hx0 rfl (by decide)).2 rfl (by decide)).2 rfl (by decide)).2 _ q hq) rfl rfl (Nat.le_of_ble_eq_true rfl) ⟨rfl, rfl, by decide, by decide⟩ h (fun v1 s2 h => ?_)
  refine wr_iconst (-1 : Int32) (wg_da dt_X7_heirOf 8 rfl) (by decide) ?_
  refine wr_icmp_ne 22 (wg_da dt_X7_heirOf 9 rfl) (by decide) h (fun h => ?_) (fun h => ?_)
  · refine wr_iconst (-1 : Int32) (wg_da dt_X7_heirOf 10 rfl) (by decide) ?_
    exact wr_iret (wg_da dt_X7_heirOf 11 rfl) h
  · refine wr_iconst (0 : Int32) (wg_da dt_X7_heirOf 12 rfl) (by decide) ?_
    refine wr_istore (wg_da dt_X7_heirOf 13 rfl) (by decide) ?_
    refine wr_iconst (-1 : Int32) (wg_da dt_X7_heirOf 14 rfl) (by decide) ?_
    refine wr_istore (wg_da dt_X7_heirOf 15 rfl) (by decide) ?_
    refine wr_iconst (0 : Int32) (wg_da dt_X7_heirOf 16 rfl) (by decide) ?_
    refine wr_istore (wg_da dt_X7_heirOf 17 rfl) (by decide) ?_
    exact wr_wk [false, false, true, true, true, true, true] (g_X7_heirOf_31 l E  _  wg_N x2 (wg_r Sc (wg_r Sc (wg_r Sc x0 0) 0) 1) (0 : Int32) (-1 : Int32) (0 : Int32) s2 (wg_ty Sc_ok 0 1 4 (wg_ty Sc_ok 10 0 2 (wg_ty Sc_ok 7 0 12 hx0 rfl (by decide)).2 rfl (by decide)).2 rfl (by decide)).2 h)
theorem m_X7_heirOf (l : Launch) (E : wg_E) (x0 : Nat) (x1 : Int32) (x2 : Int32) (hx0 : wg_t Sc x0 = 9) (σ : wg_M) (q : Int32 × wg_M) (h : f_X7_heirOf x0 x1 x2 σ = some q) : wg_MG l E Sc yX7_heirOf cX7_heirOf 7 (some .int) rm_X7_heirOf [.ref x0, .int x1, .int x2] σ (some q.1) q.2 :=
  wg_met [.ref x0, .int x1, .int x2] (plainFor_of_name (by decide)) (Nat.le_of_ble_eq_true rfl) (g_X7_heirOf_e l E x0 x1 x2 σ q hx0 h)
abbrev rm_X7_madeAfter : Room := { frames := 0, cells := 0, slots := 0, locals := 0 }
def tb_X7_madeAfter : List (Nat × Instr × Nat) := [(0, .aload_n 0, 1), (1, .getfield 9, 3), (4, .getfield 58, 3), (7, .astore_n 2, 1), (8, .iconst 0, 1), (9, .istore_n 3, 1), (10, .iload_n 3, 1), (11, .aload_n 2, 1), (12, .getfield 62, 3), (15, .if_icmp .ge 26, 3), (18, .aload_n 2, 1), (19, .getfield 65, 3), (22, .iload_n 3, 1), (23, .iaload, 1), (24, .iload_n 1, 1), (25, .if_icmp .ne 10, 3), (28, .aload_n 2, 1), (29, .getfield 69, 3), (32, .iload_n 3, 1), (33, .iaload, 1), (34, .ireturn, 1), (35, .iinc 3 1, 3), (38, .goto (-28), 3), (41, .iconst (-1), 1), (42, .ireturn, 1)]
theorem dt_X7_madeAfter : wg_dc cX7_madeAfter tb_X7_madeAfter := by unfold wg_dc; decide +kernel
def f_X7_madeAfter_10  : Nat → Int32 → Nat → Int32 → wg_M → Option (Int32 × wg_M)
  | 0, _, _, _, _ => none
  | n + 1, x1, x2, x3, σ => if (σ x2 4) ≤ x3 then (some ((-1 : Int32), σ)) else (wg_ga (wg_n Sc (wg_r Sc x2 2)) (σ (wg_r Sc x2 2)) x3 (fun v1 => if v1 = x1 then (wg_ga (wg_n Sc (wg_r Sc x2 3)) (σ (wg_r Sc x2 3)) x3 (fun v3 => some (v3, σ))) else (wg_let (x3 + (1 : Int32)) (fun v2 => f_X7_madeAfter_10  n x1 x2 v2 σ))))
def f_X7_madeAfter  (x0 : Nat) (x1 : Int32) (σ : wg_M) : Option (Int32 × wg_M) := f_X7_madeAfter_10  wg_N x1 (wg_r Sc (wg_r Sc x0 0) 5) (0 : Int32) σ
set_option maxRecDepth 20000 in
theorem g_X7_madeAfter_10 (l : Launch) (E : wg_E)  (z : Int32 × wg_M) : ∀ (n : Nat) (x1 : Int32) (x2 : Nat) (x3 : Int32) (σ : wg_M) (hx2 : wg_t Sc x2 = 6) (h : f_X7_madeAfter_10  n x1 x2 x3 σ = some z), wg_G l E Sc "WornWigs$Thought" cX7_madeAfter 4 (some .int) rm_X7_madeAfter (some z.1) z.2 10 [none, some (.int x1), some (.ref x2), some (.int x3)] [] σ := by
  intro n
  induction n with
  | zero => intro x1 x2 x3 σ hx2 h; cases h
  | succ n ih =>
    intro x1 x2 x3 σ hx2 h
    refine wr_iload_n (wg_da dt_X7_madeAfter 6 rfl) rfl ?_
    refine wr_aload_n (wg_da dt_X7_madeAfter 7 rfl) rfl ?_
    refine wr_getI wf_X7_62 (wg_da dt_X7_madeAfter 8 rfl) hx2 ?_
    refine wr_icmp_ge 41 (wg_da dt_X7_madeAfter 9 rfl) (by decide) h (fun h => ?_) (fun h => ?_)
    · refine wr_iconst (-1 : Int32) (wg_da dt_X7_madeAfter 23 rfl) (by decide) ?_
      exact wr_iret (wg_da dt_X7_madeAfter 24 rfl) h
    · refine wr_aload_n (wg_da dt_X7_madeAfter 10 rfl) rfl ?_
      refine wr_getR wf_X7_65 (wg_da dt_X7_madeAfter 11 rfl) hx2 ?_
      refine wr_iload_n (wg_da dt_X7_madeAfter 12 rfl) rfl ?_
      refine wr_iald (wg_da dt_X7_madeAfter 13 rfl) (wg_ty Sc_ok 4 2 0 hx2 rfl (by decide)).2 h (fun v1 h => ?_)
      refine wr_iload_n (wg_da dt_X7_madeAfter 14 rfl) rfl ?_
      refine wr_icmp_ne 35 (wg_da dt_X7_madeAfter 15 rfl) (by decide) h (fun h => ?_) (fun h => ?_)
      · refine wr_aload_n (wg_da dt_X7_madeAfter 16 rfl) rfl ?_
        refine wr_getR wf_X7_69 (wg_da dt_X7_madeAfter 17 rfl) hx2 ?_
        refine wr_iload_n (wg_da dt_X7_madeAfter 18 rfl) rfl ?_
        refine wr_iald (wg_da dt_X7_madeAfter 19 rfl) (wg_ty Sc_ok 4 3 0 hx2 rfl (by decide)).2 h (fun v3 h => ?_)
        exact wr_iret (wg_da dt_X7_madeAfter 20 rfl) h
      · refine wr_iinc (c0 := (1 : Int32)) (wg_da dt_X7_madeAfter 21 rfl) rfl (by decide) (by decide) h (fun v2 h => ?_)
        refine wr_goto 10 (wg_da dt_X7_madeAfter 22 rfl) (by decide) ?_
        exact wr_wk [false, true, true, true] (ih x1 x2 v2 σ hx2 h)
set_option maxRecDepth 20000 in
theorem g_X7_madeAfter_e (l : Launch) (E : wg_E)  (x0 : Nat) (x1 : Int32) (σ : wg_M) (z : Int32 × wg_M) (hx0 : wg_t Sc x0 = 9) (h : f_X7_madeAfter  x0 x1 σ = some z) : wg_G l E Sc "WornWigs$Thought" cX7_madeAfter 4 (some .int) rm_X7_madeAfter (some z.1) z.2 0 [some (.ref x0), some (.int x1), none, none] [] σ := by
  refine wr_aload_n (wg_da dt_X7_madeAfter 0 rfl) rfl ?_
  refine wr_getR wf_X7_9 (wg_da dt_X7_madeAfter 1 rfl) hx0 ?_
  refine wr_getR wf_X7_58 (wg_da dt_X7_madeAfter 2 rfl) (wg_ty Sc_ok 7 0 12 hx0 rfl (by decide)).2 ?_
  refine wr_astore_n (wg_da dt_X7_madeAfter 3 rfl) (by decide) ?_
  refine wr_iconst (0 : Int32) (wg_da dt_X7_madeAfter 4 rfl) (by decide) ?_
  refine wr_istore_n (wg_da dt_X7_madeAfter 5 rfl) (by decide) ?_
  exact wr_wk [false, true, true, true] (g_X7_madeAfter_10 l E  _  wg_N x1 (wg_r Sc (wg_r Sc x0 0) 5) (0 : Int32) σ (wg_ty Sc_ok 10 5 6 (wg_ty Sc_ok 7 0 12 hx0 rfl (by decide)).2 rfl (by decide)).2 h)
theorem m_X7_madeAfter (l : Launch) (E : wg_E) (x0 : Nat) (x1 : Int32) (hx0 : wg_t Sc x0 = 9) (σ : wg_M) (q : Int32 × wg_M) (h : f_X7_madeAfter x0 x1 σ = some q) : wg_MG l E Sc yX7_madeAfter cX7_madeAfter 4 (some .int) rm_X7_madeAfter [.ref x0, .int x1] σ (some q.1) q.2 :=
  wg_met [.ref x0, .int x1] (plainFor_of_name (by decide)) (Nat.le_of_ble_eq_true rfl) (g_X7_madeAfter_e l E x0 x1 σ q hx0 h)
abbrev rm_X7_rootOf : Room := { frames := 1, cells := 0, slots := 0, locals := 23 }
def tb_X7_rootOf : List (Nat × Instr × Nat) := [(0, .iconst 0, 1), (1, .istore_n 2, 1), (2, .iload_n 1, 1), (3, .istore_n 3, 1), (4, .iconst 0, 1), (5, .istore 4, 2), (7, .iload 4, 2), (9, .bipush 8, 2), (11, .if_icmp .ge 44, 3), (14, .iload_n 2, 1), (15, .iconst 1, 1), (16, .iload_n 3, 1), (17, .ishl, 1), (18, .ior, 1), (19, .istore_n 2, 1), (20, .aload_n 0, 1), (21, .iload_n 3, 1), (22, .invokevirtual 72, 3), (25, .istore 5, 2), (27, .iload 5, 2), (29, .iconst (-1), 1), (30, .if_icmp .ne 5, 3), (33, .iload_n 3, 1), (34, .ireturn, 1), (35, .iload 5, 2), (37, .istore_n 3, 1), (38, .iload_n 2, 1), (39, .iload_n 3, 1), (40, .ishr, 1), (41, .iconst 1, 1), (42, .iand, 1), (43, .iconst 1, 1), (44, .if_icmp .ne 5, 3), (47, .iload_n 3, 1), (48, .ireturn, 1), (49, .iinc 4 1, 3), (52, .goto (-45), 3), (55, .iload_n 3, 1), (56, .ireturn, 1)]
theorem dt_X7_rootOf : wg_dc cX7_rootOf tb_X7_rootOf := by unfold wg_dc; decide +kernel
def f_X7_rootOf_7  : Nat → Nat → Int32 → Int32 → Int32 → wg_M → Option (Int32 × wg_M)
  | 0, _, _, _, _, _ => none
  | n + 1, x0, x2, x3, x4, σ => if (8 : Int32) ≤ x4 then (some (x3, σ)) else (wg_let (x2 ||| ((1 : Int32) <<< (x3 &&& 31))) (fun v1 => wg_bd (f_X7_madeAfter x0 x3 σ) (fun v2 s3 => if v2 = (-1 : Int32) then (some (x3, s3)) else (if ((v1 >>> (v2 &&& 31)) &&& (1 : Int32)) = (1 : Int32) then (some (v2, s3)) else (wg_let (x4 + (1 : Int32)) (fun v4 => f_X7_rootOf_7  n x0 v1 v2 v4 s3))))))
def f_X7_rootOf  (x0 : Nat) (x1 : Int32) (σ : wg_M) : Option (Int32 × wg_M) := f_X7_rootOf_7  wg_N x0 (0 : Int32) x1 (0 : Int32) σ
set_option maxRecDepth 20000 in
theorem g_X7_rootOf_7 (l : Launch) (E : wg_E)  (z : Int32 × wg_M) : ∀ (n : Nat) (x0 : Nat) (x2 : Int32) (x3 : Int32) (x4 : Int32) (σ : wg_M) (hx0 : wg_t Sc x0 = 9) (h : f_X7_rootOf_7  n x0 x2 x3 x4 σ = some z), wg_G l E Sc "WornWigs$Thought" cX7_rootOf 6 (some .int) rm_X7_rootOf (some z.1) z.2 7 [some (.ref x0), none, some (.int x2), some (.int x3), some (.int x4), none] [] σ := by
  intro n
  induction n with
  | zero => intro x0 x2 x3 x4 σ hx0 h; cases h
  | succ n ih =>
    intro x0 x2 x3 x4 σ hx0 h
    refine wr_iload (wg_da dt_X7_rootOf 6 rfl) rfl ?_
    refine wr_bipush (8 : Int32) (wg_da dt_X7_rootOf 7 rfl) (by decide) ?_
    refine wr_icmp_ge 55 (wg_da dt_X7_rootOf 8 rfl) (by decide) h (fun h => ?_) (fun h => ?_)
    · refine wr_iload_n (wg_da dt_X7_rootOf 37 rfl) rfl ?_
      exact wr_iret (wg_da dt_X7_rootOf 38 rfl) h
    · refine wr_iload_n (wg_da dt_X7_rootOf 9 rfl) rfl ?_
      refine wr_iconst (1 : Int32) (wg_da dt_X7_rootOf 10 rfl) (by decide) ?_
      refine wr_iload_n (wg_da dt_X7_rootOf 11 rfl) rfl ?_
      refine wr_ishl (wg_da dt_X7_rootOf 12 rfl) ?_
      refine wr_ior (wg_da dt_X7_rootOf 13 rfl) ?_
      refine wr_let h (fun v1 h => ?_)
      refine wr_istore_n (wg_da dt_X7_rootOf 14 rfl) (by decide) ?_
      refine wr_aload_n (wg_da dt_X7_rootOf 15 rfl) rfl ?_
      refine wr_iload_n (wg_da dt_X7_rootOf 16 rfl) rfl ?_
      refine wr_callVi [.int x3] [] (wg_da dt_X7_rootOf 17 rfl) ⟨wq_5_163, wq_5_165, wq_p3_9⟩ hx0 ⟨rfl, by decide⟩ wy_X7_madeAfter (fun q hq => m_X7_madeAfter l E x0 x3 hx0 _ q hq) rfl rfl (Nat.le_of_ble_eq_true rfl) ⟨rfl, rfl, by decide, by decide⟩ h (fun v2 s3 h => ?_)
      refine wr_istore (wg_da dt_X7_rootOf 18 rfl) (by decide) ?_
      refine wr_iload (wg_da dt_X7_rootOf 19 rfl) rfl ?_
      refine wr_iconst (-1 : Int32) (wg_da dt_X7_rootOf 20 rfl) (by decide) ?_
      refine wr_icmp_ne 35 (wg_da dt_X7_rootOf 21 rfl) (by decide) h (fun h => ?_) (fun h => ?_)
      · refine wr_iload_n (wg_da dt_X7_rootOf 22 rfl) rfl ?_
        exact wr_iret (wg_da dt_X7_rootOf 23 rfl) h
      · refine wr_iload (wg_da dt_X7_rootOf 24 rfl) rfl ?_
        refine wr_istore_n (wg_da dt_X7_rootOf 25 rfl) (by decide) ?_
        refine wr_iload_n (wg_da dt_X7_rootOf 26 rfl) rfl ?_
        refine wr_iload_n (wg_da dt_X7_rootOf 27 rfl) rfl ?_
        refine wr_ishr (wg_da dt_X7_rootOf 28 rfl) ?_
        refine wr_iconst (1 : Int32) (wg_da dt_X7_rootOf 29 rfl) (by decide) ?_
        refine wr_iand (wg_da dt_X7_rootOf 30 rfl) ?_
        refine wr_iconst (1 : Int32) (wg_da dt_X7_rootOf 31 rfl) (by decide) ?_
        refine wr_icmp_ne 49 (wg_da dt_X7_rootOf 32 rfl) (by decide) h (fun h => ?_) (fun h => ?_)
        · refine wr_iload_n (wg_da dt_X7_rootOf 33 rfl) rfl ?_
          exact wr_iret (wg_da dt_X7_rootOf 34 rfl) h
        · refine wr_iinc (c0 := (1 : Int32)) (wg_da dt_X7_rootOf 35 rfl) rfl (by decide) (by decide) h (fun v4 h => ?_)
          refine wr_goto 7 (wg_da dt_X7_rootOf 36 rfl) (by decide) ?_
          exact wr_wk [true, false, true, true, true, false] (ih x0 v1 v2 v4 s3 hx0 h)
set_option maxRecDepth 20000 in
theorem g_X7_rootOf_e (l : Launch) (E : wg_E)  (x0 : Nat) (x1 : Int32) (σ : wg_M) (z : Int32 × wg_M) (hx0 : wg_t Sc x0 = 9) (h : f_X7_rootOf  x0 x1 σ = some z) : wg_G l E Sc "WornWigs$Thought" cX7_rootOf 6 (some .int) rm_X7_rootOf (some z.1) z.2 0 [some (.ref x0), some (.int x1), none, none, none, none] [] σ := by
  refine wr_iconst (0 : Int32) (wg_da dt_X7_rootOf 0 rfl) (by decide) ?_
  refine wr_istore_n (wg_da dt_X7_rootOf 1 rfl) (by decide) ?_
  refine wr_iload_n (wg_da dt_X7_rootOf 2 rfl) rfl ?_
  refine wr_istore_n (wg_da dt_X7_rootOf 3 rfl) (by decide) ?_
  refine wr_iconst (0 : Int32) (wg_da dt_X7_rootOf 4 rfl) (by decide) ?_
  refine wr_istore (wg_da dt_X7_rootOf 5 rfl) (by decide) ?_
  exact wr_wk [true, false, true, true, true, false] (g_X7_rootOf_7 l E  _  wg_N x0 (0 : Int32) x1 (0 : Int32) σ hx0 h)
theorem m_X7_rootOf (l : Launch) (E : wg_E) (x0 : Nat) (x1 : Int32) (hx0 : wg_t Sc x0 = 9) (σ : wg_M) (q : Int32 × wg_M) (h : f_X7_rootOf x0 x1 σ = some q) : wg_MG l E Sc yX7_rootOf cX7_rootOf 6 (some .int) rm_X7_rootOf [.ref x0, .int x1] σ (some q.1) q.2 :=
  wg_met [.ref x0, .int x1] (plainFor_of_name (by decide)) (Nat.le_of_ble_eq_true rfl) (g_X7_rootOf_e l E x0 x1 σ q hx0 h)
abbrev rm_X7_backSet : Room := { frames := 1, cells := 0, slots := 0, locals := 23 }
def tb_X7_backSet : List (Nat × Instr × Nat) := [(0, .iconst 0, 1), (1, .istore_n 2, 1), (2, .iload_n 1, 1), (3, .istore_n 3, 1), (4, .iconst 0, 1), (5, .istore 4, 2), (7, .iload 4, 2), (9, .bipush 8, 2), (11, .if_icmp .ge 26, 3), (14, .iload_n 3, 1), (15, .iconst (-1), 1), (16, .if_icmp .eq 21, 3), (19, .iload_n 2, 1), (20, .iconst 1, 1), (21, .iload_n 3, 1), (22, .ishl, 1), (23, .ior, 1), (24, .istore_n 2, 1), (25, .aload_n 0, 1), (26, .iload_n 3, 1), (27, .invokevirtual 72, 3), (30, .istore_n 3, 1), (31, .iinc 4 1, 3), (34, .goto (-27), 3), (37, .iload_n 2, 1), (38, .ireturn, 1)]
theorem dt_X7_backSet : wg_dc cX7_backSet tb_X7_backSet := by unfold wg_dc; decide +kernel
def f_X7_backSet_7  : Nat → Nat → Int32 → Int32 → Int32 → wg_M → Option (Int32 × wg_M)
  | 0, _, _, _, _, _ => none
  | n + 1, x0, x2, x3, x4, σ => if (8 : Int32) ≤ x4 then (some (x2, σ)) else (if x3 = (-1 : Int32) then (some (x2, σ)) else (wg_let (x2 ||| ((1 : Int32) <<< (x3 &&& 31))) (fun v1 => wg_bd (f_X7_madeAfter x0 x3 σ) (fun v2 s3 => wg_let (x4 + (1 : Int32)) (fun v4 => f_X7_backSet_7  n x0 v1 v2 v4 s3)))))
def f_X7_backSet  (x0 : Nat) (x1 : Int32) (σ : wg_M) : Option (Int32 × wg_M) := f_X7_backSet_7  wg_N x0 (0 : Int32) x1 (0 : Int32) σ
set_option maxRecDepth 20000 in
theorem g_X7_backSet_7 (l : Launch) (E : wg_E)  (z : Int32 × wg_M) : ∀ (n : Nat) (x0 : Nat) (x2 : Int32) (x3 : Int32) (x4 : Int32) (σ : wg_M) (hx0 : wg_t Sc x0 = 9) (h : f_X7_backSet_7  n x0 x2 x3 x4 σ = some z), wg_G l E Sc "WornWigs$Thought" cX7_backSet 5 (some .int) rm_X7_backSet (some z.1) z.2 7 [some (.ref x0), none, some (.int x2), some (.int x3), some (.int x4)] [] σ := by
  intro n
  induction n with
  | zero => intro x0 x2 x3 x4 σ hx0 h; cases h
  | succ n ih =>
    intro x0 x2 x3 x4 σ hx0 h
    refine wr_iload (wg_da dt_X7_backSet 6 rfl) rfl ?_
    refine wr_bipush (8 : Int32) (wg_da dt_X7_backSet 7 rfl) (by decide) ?_
    refine wr_icmp_ge 37 (wg_da dt_X7_backSet 8 rfl) (by decide) h (fun h => ?_) (fun h => ?_)
    · refine wr_iload_n (wg_da dt_X7_backSet 24 rfl) rfl ?_
      exact wr_iret (wg_da dt_X7_backSet 25 rfl) h
    · refine wr_iload_n (wg_da dt_X7_backSet 9 rfl) rfl ?_
      refine wr_iconst (-1 : Int32) (wg_da dt_X7_backSet 10 rfl) (by decide) ?_
      refine wr_icmp_eq 37 (wg_da dt_X7_backSet 11 rfl) (by decide) h (fun h => ?_) (fun h => ?_)
      · refine wr_iload_n (wg_da dt_X7_backSet 24 rfl) rfl ?_
        exact wr_iret (wg_da dt_X7_backSet 25 rfl) h
      · refine wr_iload_n (wg_da dt_X7_backSet 12 rfl) rfl ?_
        refine wr_iconst (1 : Int32) (wg_da dt_X7_backSet 13 rfl) (by decide) ?_
        refine wr_iload_n (wg_da dt_X7_backSet 14 rfl) rfl ?_
        refine wr_ishl (wg_da dt_X7_backSet 15 rfl) ?_
        refine wr_ior (wg_da dt_X7_backSet 16 rfl) ?_
        refine wr_let h (fun v1 h => ?_)
        refine wr_istore_n (wg_da dt_X7_backSet 17 rfl) (by decide) ?_
        refine wr_aload_n (wg_da dt_X7_backSet 18 rfl) rfl ?_
        refine wr_iload_n (wg_da dt_X7_backSet 19 rfl) rfl ?_
        refine wr_callVi [.int x3] [] (wg_da dt_X7_backSet 20 rfl) ⟨wq_5_163, wq_5_165, wq_p3_9⟩ hx0 ⟨rfl, by decide⟩ wy_X7_madeAfter (fun q hq => m_X7_madeAfter l E x0 x3 hx0 _ q hq) rfl rfl (Nat.le_of_ble_eq_true rfl) ⟨rfl, rfl, by decide, by decide⟩ h (fun v2 s3 h => ?_)
        refine wr_istore_n (wg_da dt_X7_backSet 21 rfl) (by decide) ?_
        refine wr_iinc (c0 := (1 : Int32)) (wg_da dt_X7_backSet 22 rfl) rfl (by decide) (by decide) h (fun v4 h => ?_)
        refine wr_goto 7 (wg_da dt_X7_backSet 23 rfl) (by decide) ?_
        exact wr_wk [true, false, true, true, true] (ih x0 v1 v2 v4 s3 hx0 h)
set_option maxRecDepth 20000 in
theorem g_X7_backSet_e (l : Launch) (E : wg_E)  (x0 : Nat) (x1 : Int32) (σ : wg_M) (z : Int32 × wg_M) (hx0 : wg_t Sc x0 = 9) (h : f_X7_backSet  x0 x1 σ = some z) : wg_G l E Sc "WornWigs$Thought" cX7_backSet 5 (some .int) rm_X7_backSet (some z.1) z.2 0 [some (.ref x0), some (.int x1), none, none, none] [] σ := by
  refine wr_iconst (0 : Int32) (wg_da dt_X7_backSet 0 rfl) (by decide) ?_
  refine wr_istore_n (wg_da dt_X7_backSet 1 rfl) (by decide) ?_
  refine wr_iload_n (wg_da dt_X7_backSet 2 rfl) rfl ?_
  refine wr_istore_n (wg_da dt_X7_backSet 3 rfl) (by decide) ?_
  refine wr_iconst (0 : Int32) (wg_da dt_X7_backSet 4 rfl) (by decide) ?_
  refine wr_istore (wg_da dt_X7_backSet 5 rfl) (by decide) ?_
  exact wr_wk [true, false, true, true, true] (g_X7_backSet_7 l E  _  wg_N x0 (0 : Int32) x1 (0 : Int32) σ hx0 h)
theorem m_X7_backSet (l : Launch) (E : wg_E) (x0 : Nat) (x1 : Int32) (hx0 : wg_t Sc x0 = 9) (σ : wg_M) (q : Int32 × wg_M) (h : f_X7_backSet x0 x1 σ = some q) : wg_MG l E Sc yX7_backSet cX7_backSet 5 (some .int) rm_X7_backSet [.ref x0, .int x1] σ (some q.1) q.2 :=
  wg_met [.ref x0, .int x1] (plainFor_of_name (by decide)) (Nat.le_of_ble_eq_true rfl) (g_X7_backSet_e l E x0 x1 σ q hx0 h)
abbrev rm_X7_commonOf : Room := { frames := 2, cells := 0, slots := 0, locals := 47 }
def tb_X7_commonOf : List (Nat × Instr × Nat) := [(0, .aload_n 0, 1), (1, .iload_n 2, 1), (2, .invokevirtual 75, 3), (5, .istore_n 3, 1), (6, .iload_n 1, 1), (7, .istore 4, 2), (9, .iconst 0, 1), (10, .istore 5, 2), (12, .iload 5, 2), (14, .bipush 8, 2), (16, .if_icmp .ge 36, 3), (19, .iload 4, 2), (21, .iconst (-1), 1), (22, .if_icmp .eq 30, 3), (25, .iload_n 3, 1), (26, .iload 4, 2), (28, .ishr, 1), (29, .iconst 1, 1), (30, .iand, 1), (31, .iconst 1, 1), (32, .if_icmp .ne 6, 3), (35, .iload 4, 2), (37, .ireturn, 1), (38, .aload_n 0, 1), (39, .iload 4, 2), (41, .invokevirtual 72, 3), (44, .istore 4, 2), (46, .iinc 5 1, 3), (49, .goto (-37), 3), (52, .iconst (-1), 1), (53, .ireturn, 1)]
theorem dt_X7_commonOf : wg_dc cX7_commonOf tb_X7_commonOf := by unfold wg_dc; decide +kernel
def f_X7_commonOf_12  : Nat → Nat → Int32 → Int32 → Int32 → wg_M → Option (Int32 × wg_M)
  | 0, _, _, _, _, _ => none
  | n + 1, x0, x3, x4, x5, σ => if (8 : Int32) ≤ x5 then (some ((-1 : Int32), σ)) else (if x4 = (-1 : Int32) then (some ((-1 : Int32), σ)) else (if ((x3 >>> (x4 &&& 31)) &&& (1 : Int32)) = (1 : Int32) then (some (x4, σ)) else (wg_bd (f_X7_madeAfter x0 x4 σ) (fun v1 s2 => wg_let (x5 + (1 : Int32)) (fun v3 => f_X7_commonOf_12  n x0 x3 v1 v3 s2)))))
def f_X7_commonOf  (x0 : Nat) (x1 : Int32) (x2 : Int32) (σ : wg_M) : Option (Int32 × wg_M) := wg_bd (f_X7_backSet x0 x2 σ) (fun v1 s2 => f_X7_commonOf_12  wg_N x0 v1 x1 (0 : Int32) s2)
set_option maxRecDepth 20000 in
theorem g_X7_commonOf_12 (l : Launch) (E : wg_E)  (z : Int32 × wg_M) : ∀ (n : Nat) (x0 : Nat) (x3 : Int32) (x4 : Int32) (x5 : Int32) (σ : wg_M) (hx0 : wg_t Sc x0 = 9) (h : f_X7_commonOf_12  n x0 x3 x4 x5 σ = some z), wg_G l E Sc "WornWigs$Thought" cX7_commonOf 6 (some .int) rm_X7_commonOf (some z.1) z.2 12 [some (.ref x0), none, none, some (.int x3), some (.int x4), some (.int x5)] [] σ := by
  intro n
  induction n with
  | zero => intro x0 x3 x4 x5 σ hx0 h; cases h
  | succ n ih =>
    intro x0 x3 x4 x5 σ hx0 h
    refine wr_iload (wg_da dt_X7_commonOf 8 rfl) rfl ?_
    refine wr_bipush (8 : Int32) (wg_da dt_X7_commonOf 9 rfl) (by decide) ?_
    refine wr_icmp_ge 52 (wg_da dt_X7_commonOf 10 rfl) (by decide) h (fun h => ?_) (fun h => ?_)
    · refine wr_iconst (-1 : Int32) (wg_da dt_X7_commonOf 29 rfl) (by decide) ?_
      exact wr_iret (wg_da dt_X7_commonOf 30 rfl) h
    · refine wr_iload (wg_da dt_X7_commonOf 11 rfl) rfl ?_
      refine wr_iconst (-1 : Int32) (wg_da dt_X7_commonOf 12 rfl) (by decide) ?_
      refine wr_icmp_eq 52 (wg_da dt_X7_commonOf 13 rfl) (by decide) h (fun h => ?_) (fun h => ?_)
      · refine wr_iconst (-1 : Int32) (wg_da dt_X7_commonOf 29 rfl) (by decide) ?_
        exact wr_iret (wg_da dt_X7_commonOf 30 rfl) h
      · refine wr_iload_n (wg_da dt_X7_commonOf 14 rfl) rfl ?_
        refine wr_iload (wg_da dt_X7_commonOf 15 rfl) rfl ?_
        refine wr_ishr (wg_da dt_X7_commonOf 16 rfl) ?_
        refine wr_iconst (1 : Int32) (wg_da dt_X7_commonOf 17 rfl) (by decide) ?_
        refine wr_iand (wg_da dt_X7_commonOf 18 rfl) ?_
        refine wr_iconst (1 : Int32) (wg_da dt_X7_commonOf 19 rfl) (by decide) ?_
        refine wr_icmp_ne 38 (wg_da dt_X7_commonOf 20 rfl) (by decide) h (fun h => ?_) (fun h => ?_)
        · refine wr_iload (wg_da dt_X7_commonOf 21 rfl) rfl ?_
          exact wr_iret (wg_da dt_X7_commonOf 22 rfl) h
        · refine wr_aload_n (wg_da dt_X7_commonOf 23 rfl) rfl ?_
          refine wr_iload (wg_da dt_X7_commonOf 24 rfl) rfl ?_
          refine wr_callVi [.int x4] [] (wg_da dt_X7_commonOf 25 rfl) ⟨wq_5_163, wq_5_165, wq_p3_9⟩ hx0 ⟨rfl, by decide⟩ wy_X7_madeAfter (fun q hq => m_X7_madeAfter l E x0 x4 hx0 _ q hq) rfl rfl (Nat.le_of_ble_eq_true rfl) ⟨rfl, rfl, by decide, by decide⟩ h (fun v1 s2 h => ?_)
          refine wr_istore (wg_da dt_X7_commonOf 26 rfl) (by decide) ?_
          refine wr_iinc (c0 := (1 : Int32)) (wg_da dt_X7_commonOf 27 rfl) rfl (by decide) (by decide) h (fun v3 h => ?_)
          refine wr_goto 12 (wg_da dt_X7_commonOf 28 rfl) (by decide) ?_
          exact wr_wk [true, false, false, true, true, true] (ih x0 x3 v1 v3 s2 hx0 h)
set_option maxRecDepth 20000 in
theorem g_X7_commonOf_e (l : Launch) (E : wg_E)  (x0 : Nat) (x1 : Int32) (x2 : Int32) (σ : wg_M) (z : Int32 × wg_M) (hx0 : wg_t Sc x0 = 9) (h : f_X7_commonOf  x0 x1 x2 σ = some z) : wg_G l E Sc "WornWigs$Thought" cX7_commonOf 6 (some .int) rm_X7_commonOf (some z.1) z.2 0 [some (.ref x0), some (.int x1), some (.int x2), none, none, none] [] σ := by
  refine wr_aload_n (wg_da dt_X7_commonOf 0 rfl) rfl ?_
  refine wr_iload_n (wg_da dt_X7_commonOf 1 rfl) rfl ?_
  refine wr_callVi [.int x2] [] (wg_da dt_X7_commonOf 2 rfl) ⟨wq_5_171, wq_5_173, wq_p3_10⟩ hx0 ⟨rfl, by decide⟩ wy_X7_backSet (fun q hq => m_X7_backSet l E x0 x2 hx0 _ q hq) rfl rfl (Nat.le_of_ble_eq_true rfl) ⟨rfl, rfl, by decide, by decide⟩ h (fun v1 s2 h => ?_)
  refine wr_istore_n (wg_da dt_X7_commonOf 3 rfl) (by decide) ?_
  refine wr_iload_n (wg_da dt_X7_commonOf 4 rfl) rfl ?_
  refine wr_istore (wg_da dt_X7_commonOf 5 rfl) (by decide) ?_
  refine wr_iconst (0 : Int32) (wg_da dt_X7_commonOf 6 rfl) (by decide) ?_
  refine wr_istore (wg_da dt_X7_commonOf 7 rfl) (by decide) ?_
  exact wr_wk [true, false, false, true, true, true] (g_X7_commonOf_12 l E  _  wg_N x0 v1 x1 (0 : Int32) s2 hx0 h)
theorem m_X7_commonOf (l : Launch) (E : wg_E) (x0 : Nat) (x1 : Int32) (x2 : Int32) (hx0 : wg_t Sc x0 = 9) (σ : wg_M) (q : Int32 × wg_M) (h : f_X7_commonOf x0 x1 x2 σ = some q) : wg_MG l E Sc yX7_commonOf cX7_commonOf 6 (some .int) rm_X7_commonOf [.ref x0, .int x1, .int x2] σ (some q.1) q.2 :=
  wg_met [.ref x0, .int x1, .int x2] (plainFor_of_name (by decide)) (Nat.le_of_ble_eq_true rfl) (g_X7_commonOf_e l E x0 x1 x2 σ q hx0 h)
abbrev rm_X7_hasTrait : Room := { frames := 1, cells := 0, slots := 0, locals := 23 }
def tb_X7_hasTrait : List (Nat × Instr × Nat) := [(0, .aload_n 0, 1), (1, .getfield 9, 3), (4, .getfield 19, 3), (7, .getfield 78, 3), (10, .astore 4, 2), (12, .iload_n 2, 1), (13, .tableswitch 69 0 2 #[27, 44, 61], 27), (40, .aload 4, 2), (42, .getfield 82, 3), (45, .iload_n 1, 1), (46, .iaload, 1), (47, .iload_n 3, 1), (48, .if_icmp .ne 7, 3), (51, .iconst 1, 1), (52, .goto 4, 3), (55, .iconst 0, 1), (56, .ireturn, 1), (57, .aload 4, 2), (59, .getfield 87, 3), (62, .iload_n 1, 1), (63, .iaload, 1), (64, .iload_n 3, 1), (65, .if_icmp .lt 7, 3), (68, .iconst 1, 1), (69, .goto 4, 3), (72, .iconst 0, 1), (73, .ireturn, 1), (74, .aload 4, 2), (76, .iload_n 1, 1), (77, .iload_n 3, 1), (78, .invokevirtual 90, 3), (81, .ireturn, 1), (82, .aload 4, 2), (84, .getfield 94, 3), (87, .iload_n 1, 1), (88, .iaload, 1), (89, .iload_n 3, 1), (90, .if_icmp .lt 7, 3), (93, .iconst 1, 1), (94, .goto 4, 3), (97, .iconst 0, 1), (98, .ireturn, 1)]
theorem dt_X7_hasTrait : wg_dc cX7_hasTrait tb_X7_hasTrait := by unfold wg_dc; decide +kernel
def f_X7_hasTrait  (x0 : Nat) (x1 : Int32) (x2 : Int32) (x3 : Int32) (σ : wg_M) : Option (Int32 × wg_M) := wg_sw x2 (0) [wg_ga (wg_n Sc (wg_r Sc (wg_r Sc (wg_r Sc (wg_r Sc x0 0) 0) 0) 0)) (σ (wg_r Sc (wg_r Sc (wg_r Sc (wg_r Sc x0 0) 0) 0) 0)) x1 (fun v1 => if v1 = x3 then (some ((1 : Int32), σ)) else (some ((0 : Int32), σ))), wg_ga (wg_n Sc (wg_r Sc (wg_r Sc (wg_r Sc (wg_r Sc x0 0) 0) 0) 1)) (σ (wg_r Sc (wg_r Sc (wg_r Sc (wg_r Sc x0 0) 0) 0) 1)) x1 (fun v2 => if v2 < x3 then (some ((0 : Int32), σ)) else (some ((1 : Int32), σ))), wg_bd (f_X9_knows (wg_r Sc (wg_r Sc (wg_r Sc x0 0) 0) 0) x1 x3 σ) (fun v3 s4 => wg_bz v3 (some (v3, s4)))] (wg_ga (wg_n Sc (wg_r Sc (wg_r Sc (wg_r Sc (wg_r Sc x0 0) 0) 0) 3)) (σ (wg_r Sc (wg_r Sc (wg_r Sc (wg_r Sc x0 0) 0) 0) 3)) x1 (fun v5 => if v5 < x3 then (some ((0 : Int32), σ)) else (some ((1 : Int32), σ))))
set_option maxRecDepth 20000 in
theorem g_X7_hasTrait_e (l : Launch) (E : wg_E)  (x0 : Nat) (x1 : Int32) (x2 : Int32) (x3 : Int32) (σ : wg_M) (z : Int32 × wg_M) (hx0 : wg_t Sc x0 = 9) (h : f_X7_hasTrait  x0 x1 x2 x3 σ = some z) : wg_G l E Sc "WornWigs$Thought" cX7_hasTrait 5 (some .boolean) rm_X7_hasTrait (some z.1) z.2 0 [some (.ref x0), some (.int x1), some (.int x2), some (.int x3), none] [] σ := by
  refine wr_aload_n (wg_da dt_X7_hasTrait 0 rfl) rfl ?_
  refine wr_getR wf_X7_9 (wg_da dt_X7_hasTrait 1 rfl) hx0 ?_
  refine wr_getR wf_X7_19 (wg_da dt_X7_hasTrait 2 rfl) (wg_ty Sc_ok 7 0 12 hx0 rfl (by decide)).2 ?_
  refine wr_getR wf_X7_78 (wg_da dt_X7_hasTrait 3 rfl) (wg_ty Sc_ok 10 0 2 (wg_ty Sc_ok 7 0 12 hx0 rfl (by decide)).2 rfl (by decide)).2 ?_
  refine wr_astore (wg_da dt_X7_hasTrait 4 rfl) (by decide) ?_
  refine wr_iload_n (wg_da dt_X7_hasTrait 5 rfl) rfl ?_
  refine wr_tsw [40, 57, 74] 82 (wg_da dt_X7_hasTrait 6 rfl) rfl rfl (by decide) (by decide) h (wg_all_c (fun h => ?_) (wg_all_c (fun h => ?_) (wg_all_c (fun h => ?_) (wg_all_n)))) (fun h => ?_)
  · refine wr_aload (wg_da dt_X7_hasTrait 7 rfl) rfl ?_
    refine wr_getR wf_X7_82 (wg_da dt_X7_hasTrait 8 rfl) (wg_ty Sc_ok 0 0 11 (wg_ty Sc_ok 10 0 2 (wg_ty Sc_ok 7 0 12 hx0 rfl (by decide)).2 rfl (by decide)).2 rfl (by decide)).2 ?_
    refine wr_iload_n (wg_da dt_X7_hasTrait 9 rfl) rfl ?_
    refine wr_iald (wg_da dt_X7_hasTrait 10 rfl) (wg_ty Sc_ok 9 0 0 (wg_ty Sc_ok 0 0 11 (wg_ty Sc_ok 10 0 2 (wg_ty Sc_ok 7 0 12 hx0 rfl (by decide)).2 rfl (by decide)).2 rfl (by decide)).2 rfl (by decide)).2 h (fun v1 h => ?_)
    refine wr_iload_n (wg_da dt_X7_hasTrait 11 rfl) rfl ?_
    refine wr_icmp_ne 55 (wg_da dt_X7_hasTrait 12 rfl) (by decide) h (fun h => ?_) (fun h => ?_)
    · refine wr_iconst (1 : Int32) (wg_da dt_X7_hasTrait 13 rfl) (by decide) ?_
      refine wr_goto 56 (wg_da dt_X7_hasTrait 14 rfl) (by decide) ?_
      exact wr_zret1 (wg_da dt_X7_hasTrait 16 rfl) h
    · refine wr_iconst (0 : Int32) (wg_da dt_X7_hasTrait 15 rfl) (by decide) ?_
      exact wr_zret0 (wg_da dt_X7_hasTrait 16 rfl) h
  · refine wr_aload (wg_da dt_X7_hasTrait 17 rfl) rfl ?_
    refine wr_getR wf_X7_87 (wg_da dt_X7_hasTrait 18 rfl) (wg_ty Sc_ok 0 0 11 (wg_ty Sc_ok 10 0 2 (wg_ty Sc_ok 7 0 12 hx0 rfl (by decide)).2 rfl (by decide)).2 rfl (by decide)).2 ?_
    refine wr_iload_n (wg_da dt_X7_hasTrait 19 rfl) rfl ?_
    refine wr_iald (wg_da dt_X7_hasTrait 20 rfl) (wg_ty Sc_ok 9 1 0 (wg_ty Sc_ok 0 0 11 (wg_ty Sc_ok 10 0 2 (wg_ty Sc_ok 7 0 12 hx0 rfl (by decide)).2 rfl (by decide)).2 rfl (by decide)).2 rfl (by decide)).2 h (fun v2 h => ?_)
    refine wr_iload_n (wg_da dt_X7_hasTrait 21 rfl) rfl ?_
    refine wr_icmp_lt 72 (wg_da dt_X7_hasTrait 22 rfl) (by decide) h (fun h => ?_) (fun h => ?_)
    · refine wr_iconst (0 : Int32) (wg_da dt_X7_hasTrait 25 rfl) (by decide) ?_
      exact wr_zret0 (wg_da dt_X7_hasTrait 26 rfl) h
    · refine wr_iconst (1 : Int32) (wg_da dt_X7_hasTrait 23 rfl) (by decide) ?_
      refine wr_goto 73 (wg_da dt_X7_hasTrait 24 rfl) (by decide) ?_
      exact wr_zret1 (wg_da dt_X7_hasTrait 26 rfl) h
  · refine wr_aload (wg_da dt_X7_hasTrait 27 rfl) rfl ?_
    refine wr_iload_n (wg_da dt_X7_hasTrait 28 rfl) rfl ?_
    refine wr_iload_n (wg_da dt_X7_hasTrait 29 rfl) rfl ?_
    refine wr_callVi [.int x1, .int x3] [] (wg_da dt_X7_hasTrait 30 rfl) ⟨wq_5_230, wq_3_236, wq_3_237⟩ (wg_ty Sc_ok 0 0 11 (wg_ty Sc_ok 10 0 2 (wg_ty Sc_ok 7 0 12 hx0 rfl (by decide)).2 rfl (by decide)).2 rfl (by decide)).2 ⟨rfl, by decide⟩ wy_X9_knows (fun q hq => m_X9_knows l E (wg_r Sc (wg_r Sc (wg_r Sc x0 0) 0) 0) x1 x3 (wg_ty Sc_ok 0 0 11 (wg_ty Sc_ok 10 0 2 (wg_ty Sc_ok 7 0 12 hx0 rfl (by decide)).2 rfl (by decide)).2 rfl (by decide)).2 _ q hq) rfl rfl (Nat.le_of_ble_eq_true rfl) ⟨rfl, rfl, by decide, by decide⟩ h (fun v3 s4 h => ?_)
    exact wr_zret (wg_da dt_X7_hasTrait 31 rfl) h
  · refine wr_aload (wg_da dt_X7_hasTrait 32 rfl) rfl ?_
    refine wr_getR wf_X7_94 (wg_da dt_X7_hasTrait 33 rfl) (wg_ty Sc_ok 0 0 11 (wg_ty Sc_ok 10 0 2 (wg_ty Sc_ok 7 0 12 hx0 rfl (by decide)).2 rfl (by decide)).2 rfl (by decide)).2 ?_
    refine wr_iload_n (wg_da dt_X7_hasTrait 34 rfl) rfl ?_
    refine wr_iald (wg_da dt_X7_hasTrait 35 rfl) (wg_ty Sc_ok 9 3 0 (wg_ty Sc_ok 0 0 11 (wg_ty Sc_ok 10 0 2 (wg_ty Sc_ok 7 0 12 hx0 rfl (by decide)).2 rfl (by decide)).2 rfl (by decide)).2 rfl (by decide)).2 h (fun v5 h => ?_)
    refine wr_iload_n (wg_da dt_X7_hasTrait 36 rfl) rfl ?_
    refine wr_icmp_lt 97 (wg_da dt_X7_hasTrait 37 rfl) (by decide) h (fun h => ?_) (fun h => ?_)
    · refine wr_iconst (0 : Int32) (wg_da dt_X7_hasTrait 40 rfl) (by decide) ?_
      exact wr_zret0 (wg_da dt_X7_hasTrait 41 rfl) h
    · refine wr_iconst (1 : Int32) (wg_da dt_X7_hasTrait 38 rfl) (by decide) ?_
      refine wr_goto 98 (wg_da dt_X7_hasTrait 39 rfl) (by decide) ?_
      exact wr_zret1 (wg_da dt_X7_hasTrait 41 rfl) h
theorem m_X7_hasTrait (l : Launch) (E : wg_E) (x0 : Nat) (x1 : Int32) (x2 : Int32) (x3 : Int32) (hx0 : wg_t Sc x0 = 9) (σ : wg_M) (q : Int32 × wg_M) (h : f_X7_hasTrait x0 x1 x2 x3 σ = some q) : wg_MG l E Sc yX7_hasTrait cX7_hasTrait 5 (some .boolean) rm_X7_hasTrait [.ref x0, .int x1, .int x2, .int x3] σ (some q.1) q.2 :=
  wg_met [.ref x0, .int x1, .int x2, .int x3] (plainFor_of_name (by decide)) (Nat.le_of_ble_eq_true rfl) (g_X7_hasTrait_e l E x0 x1 x2 x3 σ q hx0 h)
abbrev rm_X7_isAsTold : Room := { frames := 2, cells := 0, slots := 0, locals := 47 }
def tb_X7_isAsTold : List (Nat × Instr × Nat) := [(0, .aload_n 0, 1), (1, .getfield 9, 3), (4, .getfield 97, 3), (7, .astore_n 2, 1), (8, .iconst 0, 1), (9, .istore_n 3, 1), (10, .iload_n 3, 1), (11, .aload_n 2, 1), (12, .getfield 101, 3), (15, .if_icmp .ge 46, 3), (18, .aload_n 0, 1), (19, .iload_n 1, 1), (20, .aload_n 2, 1), (21, .getfield 106, 3), (24, .iload_n 3, 1), (25, .iaload, 1), (26, .aload_n 2, 1), (27, .getfield 109, 3), (30, .iload_n 3, 1), (31, .iaload, 1), (32, .invokevirtual 112, 3), (35, .aload_n 2, 1), (36, .getfield 116, 3), (39, .iload_n 3, 1), (40, .iaload, 1), (41, .iconst 1, 1), (42, .if_icmp .ne 7, 3), (45, .iconst 1, 1), (46, .goto 4, 3), (49, .iconst 0, 1), (50, .if_icmp .eq 5, 3), (53, .iconst 0, 1), (54, .ireturn, 1), (55, .iinc 3 1, 3), (58, .goto (-48), 3), (61, .iconst 1, 1), (62, .ireturn, 1)]
theorem dt_X7_isAsTold : wg_dc cX7_isAsTold tb_X7_isAsTold := by unfold wg_dc; decide +kernel
def f_X7_isAsTold_50 (k10 : Nat → Int32 → Nat → Int32 → wg_M → Option (Int32 × wg_M)) (x0 : Nat) (x1 : Int32) (x2 : Nat) (x3 : Int32) (t0 : Int32) (t1 : Int32) (σ : wg_M) : Option (Int32 × wg_M) := if t1 = t0 then (wg_let (x3 + (1 : Int32)) (fun v1 => k10 x0 x1 x2 v1 σ)) else (some ((0 : Int32), σ))
def f_X7_isAsTold_10  : Nat → Nat → Int32 → Nat → Int32 → wg_M → Option (Int32 × wg_M)
  | 0, _, _, _, _, _ => none
  | n + 1, x0, x1, x2, x3, σ => if (σ x2 3) ≤ x3 then (some ((1 : Int32), σ)) else (wg_ga (wg_n Sc (wg_r Sc x2 0)) (σ (wg_r Sc x2 0)) x3 (fun v1 => wg_ga (wg_n Sc (wg_r Sc x2 1)) (σ (wg_r Sc x2 1)) x3 (fun v2 => wg_bd (f_X7_hasTrait x0 x1 v1 v2 σ) (fun v3 s4 => wg_ga (wg_n Sc (wg_r Sc x2 2)) (s4 (wg_r Sc x2 2)) x3 (fun v5 => if v5 = (1 : Int32) then (f_X7_isAsTold_50 (f_X7_isAsTold_10  n) x0 x1 x2 x3 (1 : Int32) v3 s4) else (f_X7_isAsTold_50 (f_X7_isAsTold_10  n) x0 x1 x2 x3 (0 : Int32) v3 s4))))))
def f_X7_isAsTold  (x0 : Nat) (x1 : Int32) (σ : wg_M) : Option (Int32 × wg_M) := f_X7_isAsTold_10  wg_N x0 x1 (wg_r Sc (wg_r Sc x0 0) 6) (0 : Int32) σ
set_option maxRecDepth 20000 in
theorem g_X7_isAsTold_50 (l : Launch) (E : wg_E) (k10 : Nat → Int32 → Nat → Int32 → wg_M → Option (Int32 × wg_M)) (x0 : Nat) (x1 : Int32) (x2 : Nat) (x3 : Int32) (t0 : Int32) (t1 : Int32) (σ : wg_M) (z : Int32 × wg_M) (hx0 : wg_t Sc x0 = 9) (hx2 : wg_t Sc x2 = 10) (hk10 : ∀ (x0 : Nat) (x1 : Int32) (x2 : Nat) (x3 : Int32) (σ : wg_M), wg_t Sc x0 = 9 → wg_t Sc x2 = 10 → k10 x0 x1 x2 x3 σ = some z → wg_G l E Sc "WornWigs$Thought" cX7_isAsTold 4 (some .boolean) rm_X7_isAsTold (some z.1) z.2 10 [some (.ref x0), some (.int x1), some (.ref x2), some (.int x3)] [] σ) (h : f_X7_isAsTold_50 k10 x0 x1 x2 x3 t0 t1 σ = some z) : wg_G l E Sc "WornWigs$Thought" cX7_isAsTold 4 (some .boolean) rm_X7_isAsTold (some z.1) z.2 50 [some (.ref x0), some (.int x1), some (.ref x2), some (.int x3)] [.int t0, .int t1] σ := by
  refine wr_icmp_eq 55 (wg_da dt_X7_isAsTold 30 rfl) (by decide) h (fun h => ?_) (fun h => ?_)
  · refine wr_iinc (c0 := (1 : Int32)) (wg_da dt_X7_isAsTold 33 rfl) rfl (by decide) (by decide) h (fun v1 h => ?_)
    refine wr_goto 10 (wg_da dt_X7_isAsTold 34 rfl) (by decide) ?_
    exact wr_wk [true, true, true, true] (hk10 x0 x1 x2 v1 σ hx0 hx2 h)
  · refine wr_iconst (0 : Int32) (wg_da dt_X7_isAsTold 31 rfl) (by decide) ?_
    exact wr_zret0 (wg_da dt_X7_isAsTold 32 rfl) h
set_option maxRecDepth 20000 in
theorem g_X7_isAsTold_10 (l : Launch) (E : wg_E)  (z : Int32 × wg_M) : ∀ (n : Nat) (x0 : Nat) (x1 : Int32) (x2 : Nat) (x3 : Int32) (σ : wg_M) (hx0 : wg_t Sc x0 = 9) (hx2 : wg_t Sc x2 = 10) (h : f_X7_isAsTold_10  n x0 x1 x2 x3 σ = some z), wg_G l E Sc "WornWigs$Thought" cX7_isAsTold 4 (some .boolean) rm_X7_isAsTold (some z.1) z.2 10 [some (.ref x0), some (.int x1), some (.ref x2), some (.int x3)] [] σ := by
  intro n
  induction n with
  | zero => intro x0 x1 x2 x3 σ hx0 hx2 h; cases h
  | succ n ih =>
    intro x0 x1 x2 x3 σ hx0 hx2 h
    refine wr_iload_n (wg_da dt_X7_isAsTold 6 rfl) rfl ?_
    refine wr_aload_n (wg_da dt_X7_isAsTold 7 rfl) rfl ?_
    refine wr_getI wf_X7_101 (wg_da dt_X7_isAsTold 8 rfl) hx2 ?_
    refine wr_icmp_ge 61 (wg_da dt_X7_isAsTold 9 rfl) (by decide) h (fun h => ?_) (fun h => ?_)
    · refine wr_iconst (1 : Int32) (wg_da dt_X7_isAsTold 35 rfl) (by decide) ?_
      exact wr_zret1 (wg_da dt_X7_isAsTold 36 rfl) h
    · refine wr_aload_n (wg_da dt_X7_isAsTold 10 rfl) rfl ?_
      refine wr_iload_n (wg_da dt_X7_isAsTold 11 rfl) rfl ?_
      refine wr_aload_n (wg_da dt_X7_isAsTold 12 rfl) rfl ?_
      refine wr_getR wf_X7_106 (wg_da dt_X7_isAsTold 13 rfl) hx2 ?_
      refine wr_iload_n (wg_da dt_X7_isAsTold 14 rfl) rfl ?_
      refine wr_iald (wg_da dt_X7_isAsTold 15 rfl) (wg_ty Sc_ok 8 0 0 hx2 rfl (by decide)).2 h (fun v1 h => ?_)
      refine wr_aload_n (wg_da dt_X7_isAsTold 16 rfl) rfl ?_
      refine wr_getR wf_X7_109 (wg_da dt_X7_isAsTold 17 rfl) hx2 ?_
      refine wr_iload_n (wg_da dt_X7_isAsTold 18 rfl) rfl ?_
      refine wr_iald (wg_da dt_X7_isAsTold 19 rfl) (wg_ty Sc_ok 8 1 0 hx2 rfl (by decide)).2 h (fun v2 h => ?_)
      refine wr_callVi [.int x1, .int v1, .int v2] [] (wg_da dt_X7_isAsTold 20 rfl) ⟨wq_5_226, wq_5_228, wq_p3_13⟩ hx0 ⟨rfl, by decide⟩ wy_X7_hasTrait (fun q hq => m_X7_hasTrait l E x0 x1 v1 v2 hx0 _ q hq) rfl rfl (Nat.le_of_ble_eq_true rfl) ⟨rfl, rfl, by decide, by decide⟩ h (fun v3 s4 h => ?_)
      refine wr_aload_n (wg_da dt_X7_isAsTold 21 rfl) rfl ?_
      refine wr_getR wf_X7_116 (wg_da dt_X7_isAsTold 22 rfl) hx2 ?_
      refine wr_iload_n (wg_da dt_X7_isAsTold 23 rfl) rfl ?_
      refine wr_iald (wg_da dt_X7_isAsTold 24 rfl) (wg_ty Sc_ok 8 2 0 hx2 rfl (by decide)).2 h (fun v5 h => ?_)
      refine wr_iconst (1 : Int32) (wg_da dt_X7_isAsTold 25 rfl) (by decide) ?_
      refine wr_icmp_ne 49 (wg_da dt_X7_isAsTold 26 rfl) (by decide) h (fun h => ?_) (fun h => ?_)
      · refine wr_iconst (1 : Int32) (wg_da dt_X7_isAsTold 27 rfl) (by decide) ?_
        refine wr_goto 50 (wg_da dt_X7_isAsTold 28 rfl) (by decide) ?_
        exact wr_wk [true, true, true, true] (g_X7_isAsTold_50 l E (f_X7_isAsTold_10  n) x0 x1 x2 x3 (1 : Int32) v3 s4 _ hx0 hx2 (fun x0 x1 x2 x3 σ hx0 hx2 h => ih x0 x1 x2 x3 σ hx0 hx2 h) h)
      · refine wr_iconst (0 : Int32) (wg_da dt_X7_isAsTold 29 rfl) (by decide) ?_
        exact wr_wk [true, true, true, true] (g_X7_isAsTold_50 l E (f_X7_isAsTold_10  n) x0 x1 x2 x3 (0 : Int32) v3 s4 _ hx0 hx2 (fun x0 x1 x2 x3 σ hx0 hx2 h => ih x0 x1 x2 x3 σ hx0 hx2 h) h)
set_option maxRecDepth 20000 in
theorem g_X7_isAsTold_e (l : Launch) (E : wg_E)  (x0 : Nat) (x1 : Int32) (σ : wg_M) (z : Int32 × wg_M) (hx0 : wg_t Sc x0 = 9) (h : f_X7_isAsTold  x0 x1 σ = some z) : wg_G l E Sc "WornWigs$Thought" cX7_isAsTold 4 (some .boolean) rm_X7_isAsTold (some z.1) z.2 0 [some (.ref x0), some (.int x1), none, none] [] σ := by
  refine wr_aload_n (wg_da dt_X7_isAsTold 0 rfl) rfl ?_
  refine wr_getR wf_X7_9 (wg_da dt_X7_isAsTold 1 rfl) hx0 ?_
  refine wr_getR wf_X7_97 (wg_da dt_X7_isAsTold 2 rfl) (wg_ty Sc_ok 7 0 12 hx0 rfl (by decide)).2 ?_
  refine wr_astore_n (wg_da dt_X7_isAsTold 3 rfl) (by decide) ?_
  refine wr_iconst (0 : Int32) (wg_da dt_X7_isAsTold 4 rfl) (by decide) ?_
  refine wr_istore_n (wg_da dt_X7_isAsTold 5 rfl) (by decide) ?_
  exact wr_wk [true, true, true, true] (g_X7_isAsTold_10 l E  _  wg_N x0 x1 (wg_r Sc (wg_r Sc x0 0) 6) (0 : Int32) σ hx0 (wg_ty Sc_ok 10 6 10 (wg_ty Sc_ok 7 0 12 hx0 rfl (by decide)).2 rfl (by decide)).2 h)
theorem m_X7_isAsTold (l : Launch) (E : wg_E) (x0 : Nat) (x1 : Int32) (hx0 : wg_t Sc x0 = 9) (σ : wg_M) (q : Int32 × wg_M) (h : f_X7_isAsTold x0 x1 σ = some q) : wg_MG l E Sc yX7_isAsTold cX7_isAsTold 4 (some .boolean) rm_X7_isAsTold [.ref x0, .int x1] σ (some q.1) q.2 :=
  wg_met [.ref x0, .int x1] (plainFor_of_name (by decide)) (Nat.le_of_ble_eq_true rfl) (g_X7_isAsTold_e l E x0 x1 σ q hx0 h)
abbrev rm_X7_whoseSet : Room := { frames := 3, cells := 0, slots := 0, locals := 70 }
def tb_X7_whoseSet : List (Nat × Instr × Nat) := [(0, .iconst 0, 1), (1, .istore_n 1, 1), (2, .iconst 0, 1), (3, .istore_n 2, 1), (4, .iload_n 2, 1), (5, .aload_n 0, 1), (6, .getfield 9, 3), (9, .getfield 19, 3), (12, .getfield 78, 3), (15, .getfield 119, 3), (18, .if_icmp .ge 23, 3), (21, .aload_n 0, 1), (22, .iload_n 2, 1), (23, .invokevirtual 120, 3), (26, .ifCond .eq 9, 3), (29, .iload_n 1, 1), (30, .iconst 1, 1), (31, .iload_n 2, 1), (32, .ishl, 1), (33, .ior, 1), (34, .istore_n 1, 1), (35, .iinc 2 1, 3), (38, .goto (-34), 3), (41, .iload_n 1, 1), (42, .ireturn, 1)]
theorem dt_X7_whoseSet : wg_dc cX7_whoseSet tb_X7_whoseSet := by unfold wg_dc; decide +kernel
def f_X7_whoseSet_35 (k4 : Nat → Int32 → Int32 → wg_M → Option (Int32 × wg_M)) (x0 : Nat) (x1 : Int32) (x2 : Int32) (σ : wg_M) : Option (Int32 × wg_M) := wg_let (x2 + (1 : Int32)) (fun v1 => k4 x0 x1 v1 σ)
def f_X7_whoseSet_4  : Nat → Nat → Int32 → Int32 → wg_M → Option (Int32 × wg_M)
  | 0, _, _, _, _ => none
  | n + 1, x0, x1, x2, σ => if (σ (wg_r Sc (wg_r Sc (wg_r Sc x0 0) 0) 0) 8) ≤ x2 then (some (x1, σ)) else (wg_bd (f_X7_isAsTold x0 x2 σ) (fun v1 s2 => if v1 = 0 then (f_X7_whoseSet_35 (f_X7_whoseSet_4  n) x0 x1 x2 s2) else (wg_let (x1 ||| ((1 : Int32) <<< (x2 &&& 31))) (fun v3 => f_X7_whoseSet_35 (f_X7_whoseSet_4  n) x0 v3 x2 s2))))
def f_X7_whoseSet  (x0 : Nat) (σ : wg_M) : Option (Int32 × wg_M) := f_X7_whoseSet_4  wg_N x0 (0 : Int32) (0 : Int32) σ
set_option maxRecDepth 20000 in
theorem g_X7_whoseSet_35 (l : Launch) (E : wg_E) (k4 : Nat → Int32 → Int32 → wg_M → Option (Int32 × wg_M)) (x0 : Nat) (x1 : Int32) (x2 : Int32) (σ : wg_M) (z : Int32 × wg_M) (hx0 : wg_t Sc x0 = 9) (hk4 : ∀ (x0 : Nat) (x1 : Int32) (x2 : Int32) (σ : wg_M), wg_t Sc x0 = 9 → k4 x0 x1 x2 σ = some z → wg_G l E Sc "WornWigs$Thought" cX7_whoseSet 3 (some .int) rm_X7_whoseSet (some z.1) z.2 4 [some (.ref x0), some (.int x1), some (.int x2)] [] σ) (h : f_X7_whoseSet_35 k4 x0 x1 x2 σ = some z) : wg_G l E Sc "WornWigs$Thought" cX7_whoseSet 3 (some .int) rm_X7_whoseSet (some z.1) z.2 35 [some (.ref x0), some (.int x1), some (.int x2)] [] σ := by
  refine wr_iinc (c0 := (1 : Int32)) (wg_da dt_X7_whoseSet 21 rfl) rfl (by decide) (by decide) h (fun v1 h => ?_)
  refine wr_goto 4 (wg_da dt_X7_whoseSet 22 rfl) (by decide) ?_
  exact wr_wk [true, true, true] (hk4 x0 x1 v1 σ hx0 h)
set_option maxRecDepth 20000 in
theorem g_X7_whoseSet_4 (l : Launch) (E : wg_E)  (z : Int32 × wg_M) : ∀ (n : Nat) (x0 : Nat) (x1 : Int32) (x2 : Int32) (σ : wg_M) (hx0 : wg_t Sc x0 = 9) (h : f_X7_whoseSet_4  n x0 x1 x2 σ = some z), wg_G l E Sc "WornWigs$Thought" cX7_whoseSet 3 (some .int) rm_X7_whoseSet (some z.1) z.2 4 [some (.ref x0), some (.int x1), some (.int x2)] [] σ := by
  intro n
  induction n with
  | zero => intro x0 x1 x2 σ hx0 h; cases h
  | succ n ih =>
    intro x0 x1 x2 σ hx0 h
    refine wr_iload_n (wg_da dt_X7_whoseSet 4 rfl) rfl ?_
    refine wr_aload_n (wg_da dt_X7_whoseSet 5 rfl) rfl ?_
    refine wr_getR wf_X7_9 (wg_da dt_X7_whoseSet 6 rfl) hx0 ?_
    refine wr_getR wf_X7_19 (wg_da dt_X7_whoseSet 7 rfl) (wg_ty Sc_ok 7 0 12 hx0 rfl (by decide)).2 ?_
    refine wr_getR wf_X7_78 (wg_da dt_X7_whoseSet 8 rfl) (wg_ty Sc_ok 10 0 2 (wg_ty Sc_ok 7 0 12 hx0 rfl (by decide)).2 rfl (by decide)).2 ?_
    refine wr_getI wf_X7_119 (wg_da dt_X7_whoseSet 9 rfl) (wg_ty Sc_ok 0 0 11 (wg_ty Sc_ok 10 0 2 (wg_ty Sc_ok 7 0 12 hx0 rfl (by decide)).2 rfl (by decide)).2 rfl (by decide)).2 ?_
    refine wr_icmp_ge 41 (wg_da dt_X7_whoseSet 10 rfl) (by decide) h (fun h => ?_) (fun h => ?_)
    · refine wr_iload_n (wg_da dt_X7_whoseSet 23 rfl) rfl ?_
      exact wr_iret (wg_da dt_X7_whoseSet 24 rfl) h
    · refine wr_aload_n (wg_da dt_X7_whoseSet 11 rfl) rfl ?_
      refine wr_iload_n (wg_da dt_X7_whoseSet 12 rfl) rfl ?_
      refine wr_callVi [.int x2] [] (wg_da dt_X7_whoseSet 13 rfl) ⟨wq_5_222, wq_5_224, wq_p3_12⟩ hx0 ⟨rfl, by decide⟩ wy_X7_isAsTold (fun q hq => m_X7_isAsTold l E x0 x2 hx0 _ q hq) rfl rfl (Nat.le_of_ble_eq_true rfl) ⟨rfl, rfl, by decide, by decide⟩ h (fun v1 s2 h => ?_)
      refine wr_if_eq 35 (wg_da dt_X7_whoseSet 14 rfl) (by decide) h (fun h => ?_) (fun h => ?_)
      · exact wr_wk [true, true, true] (g_X7_whoseSet_35 l E (f_X7_whoseSet_4  n) x0 x1 x2 s2 _ hx0 (fun x0 x1 x2 σ hx0 h => ih x0 x1 x2 σ hx0 h) h)
      · refine wr_iload_n (wg_da dt_X7_whoseSet 15 rfl) rfl ?_
        refine wr_iconst (1 : Int32) (wg_da dt_X7_whoseSet 16 rfl) (by decide) ?_
        refine wr_iload_n (wg_da dt_X7_whoseSet 17 rfl) rfl ?_
        refine wr_ishl (wg_da dt_X7_whoseSet 18 rfl) ?_
        refine wr_ior (wg_da dt_X7_whoseSet 19 rfl) ?_
        refine wr_let h (fun v3 h => ?_)
        refine wr_istore_n (wg_da dt_X7_whoseSet 20 rfl) (by decide) ?_
        exact wr_wk [true, true, true] (g_X7_whoseSet_35 l E (f_X7_whoseSet_4  n) x0 v3 x2 s2 _ hx0 (fun x0 x1 x2 σ hx0 h => ih x0 x1 x2 σ hx0 h) h)
set_option maxRecDepth 20000 in
theorem g_X7_whoseSet_e (l : Launch) (E : wg_E)  (x0 : Nat) (σ : wg_M) (z : Int32 × wg_M) (hx0 : wg_t Sc x0 = 9) (h : f_X7_whoseSet  x0 σ = some z) : wg_G l E Sc "WornWigs$Thought" cX7_whoseSet 3 (some .int) rm_X7_whoseSet (some z.1) z.2 0 [some (.ref x0), none, none] [] σ := by
  refine wr_iconst (0 : Int32) (wg_da dt_X7_whoseSet 0 rfl) (by decide) ?_
  refine wr_istore_n (wg_da dt_X7_whoseSet 1 rfl) (by decide) ?_
  refine wr_iconst (0 : Int32) (wg_da dt_X7_whoseSet 2 rfl) (by decide) ?_
  refine wr_istore_n (wg_da dt_X7_whoseSet 3 rfl) (by decide) ?_
  exact wr_wk [true, true, true] (g_X7_whoseSet_4 l E  _  wg_N x0 (0 : Int32) (0 : Int32) σ hx0 h)
theorem m_X7_whoseSet (l : Launch) (E : wg_E) (x0 : Nat) (hx0 : wg_t Sc x0 = 9) (σ : wg_M) (q : Int32 × wg_M) (h : f_X7_whoseSet x0 σ = some q) : wg_MG l E Sc yX7_whoseSet cX7_whoseSet 3 (some .int) rm_X7_whoseSet [.ref x0] σ (some q.1) q.2 :=
  wg_met [.ref x0] (plainFor_of_name (by decide)) (Nat.le_of_ble_eq_true rfl) (g_X7_whoseSet_e l E x0 σ q hx0 h)
abbrev rm_X7_knowers : Room := { frames := 1, cells := 0, slots := 0, locals := 23 }
def tb_X7_knowers : List (Nat × Instr × Nat) := [(0, .iconst 0, 1), (1, .istore_n 3, 1), (2, .iconst 0, 1), (3, .istore 4, 2), (5, .iload 4, 2), (7, .aload_n 0, 1), (8, .getfield 9, 3), (11, .getfield 19, 3), (14, .getfield 78, 3), (17, .getfield 119, 3), (20, .if_icmp .ge 41, 3), (23, .iload_n 1, 1), (24, .iload 4, 2), (26, .ishr, 1), (27, .iconst 1, 1), (28, .iand, 1), (29, .iconst 1, 1), (30, .if_icmp .ne 25, 3), (33, .aload_n 0, 1), (34, .getfield 9, 3), (37, .getfield 19, 3), (40, .getfield 78, 3), (43, .iload 4, 2), (45, .iload_n 2, 1), (46, .invokevirtual 90, 3), (49, .ifCond .eq 6, 3), (52, .iinc 3 1, 3), (55, .iinc 4 1, 3), (58, .goto (-53), 3), (61, .iload_n 3, 1), (62, .ireturn, 1)]
theorem dt_X7_knowers : wg_dc cX7_knowers tb_X7_knowers := by unfold wg_dc; decide +kernel
def f_X7_knowers_55 (k5 : Nat → Int32 → Int32 → Int32 → Int32 → wg_M → Option (Int32 × wg_M)) (x0 : Nat) (x1 : Int32) (x2 : Int32) (x3 : Int32) (x4 : Int32) (σ : wg_M) : Option (Int32 × wg_M) := wg_let (x4 + (1 : Int32)) (fun v1 => k5 x0 x1 x2 x3 v1 σ)
def f_X7_knowers_5  : Nat → Nat → Int32 → Int32 → Int32 → Int32 → wg_M → Option (Int32 × wg_M)
  | 0, _, _, _, _, _, _ => none
  | n + 1, x0, x1, x2, x3, x4, σ => if (σ (wg_r Sc (wg_r Sc (wg_r Sc x0 0) 0) 0) 8) ≤ x4 then (some (x3, σ)) else (if ((x1 >>> (x4 &&& 31)) &&& (1 : Int32)) = (1 : Int32) then (wg_bd (f_X9_knows (wg_r Sc (wg_r Sc (wg_r Sc x0 0) 0) 0) x4 x2 σ) (fun v1 s2 => if v1 = 0 then (f_X7_knowers_55 (f_X7_knowers_5  n) x0 x1 x2 x3 x4 s2) else (wg_let (x3 + (1 : Int32)) (fun v3 => f_X7_knowers_55 (f_X7_knowers_5  n) x0 x1 x2 v3 x4 s2)))) else (f_X7_knowers_55 (f_X7_knowers_5  n) x0 x1 x2 x3 x4 σ))
def f_X7_knowers  (x0 : Nat) (x1 : Int32) (x2 : Int32) (σ : wg_M) : Option (Int32 × wg_M) := f_X7_knowers_5  wg_N x0 x1 x2 (0 : Int32) (0 : Int32) σ
set_option maxRecDepth 20000 in
theorem g_X7_knowers_55 (l : Launch) (E : wg_E) (k5 : Nat → Int32 → Int32 → Int32 → Int32 → wg_M → Option (Int32 × wg_M)) (x0 : Nat) (x1 : Int32) (x2 : Int32) (x3 : Int32) (x4 : Int32) (σ : wg_M) (z : Int32 × wg_M) (hx0 : wg_t Sc x0 = 9) (hk5 : ∀ (x0 : Nat) (x1 : Int32) (x2 : Int32) (x3 : Int32) (x4 : Int32) (σ : wg_M), wg_t Sc x0 = 9 → k5 x0 x1 x2 x3 x4 σ = some z → wg_G l E Sc "WornWigs$Thought" cX7_knowers 5 (some .int) rm_X7_knowers (some z.1) z.2 5 [some (.ref x0), some (.int x1), some (.int x2), some (.int x3), some (.int x4)] [] σ) (h : f_X7_knowers_55 k5 x0 x1 x2 x3 x4 σ = some z) : wg_G l E Sc "WornWigs$Thought" cX7_knowers 5 (some .int) rm_X7_knowers (some z.1) z.2 55 [some (.ref x0), some (.int x1), some (.int x2), some (.int x3), some (.int x4)] [] σ := by
  refine wr_iinc (c0 := (1 : Int32)) (wg_da dt_X7_knowers 27 rfl) rfl (by decide) (by decide) h (fun v1 h => ?_)
  refine wr_goto 5 (wg_da dt_X7_knowers 28 rfl) (by decide) ?_
  exact wr_wk [true, true, true, true, true] (hk5 x0 x1 x2 x3 v1 σ hx0 h)
set_option maxRecDepth 20000 in
theorem g_X7_knowers_5 (l : Launch) (E : wg_E)  (z : Int32 × wg_M) : ∀ (n : Nat) (x0 : Nat) (x1 : Int32) (x2 : Int32) (x3 : Int32) (x4 : Int32) (σ : wg_M) (hx0 : wg_t Sc x0 = 9) (h : f_X7_knowers_5  n x0 x1 x2 x3 x4 σ = some z), wg_G l E Sc "WornWigs$Thought" cX7_knowers 5 (some .int) rm_X7_knowers (some z.1) z.2 5 [some (.ref x0), some (.int x1), some (.int x2), some (.int x3), some (.int x4)] [] σ := by
  intro n
  induction n with
  | zero => intro x0 x1 x2 x3 x4 σ hx0 h; cases h
  | succ n ih =>
    intro x0 x1 x2 x3 x4 σ hx0 h
    refine wr_iload (wg_da dt_X7_knowers 4 rfl) rfl ?_
    refine wr_aload_n (wg_da dt_X7_knowers 5 rfl) rfl ?_
    refine wr_getR wf_X7_9 (wg_da dt_X7_knowers 6 rfl) hx0 ?_
    refine wr_getR wf_X7_19 (wg_da dt_X7_knowers 7 rfl) (wg_ty Sc_ok 7 0 12 hx0 rfl (by decide)).2 ?_
    refine wr_getR wf_X7_78 (wg_da dt_X7_knowers 8 rfl) (wg_ty Sc_ok 10 0 2 (wg_ty Sc_ok 7 0 12 hx0 rfl (by decide)).2 rfl (by decide)).2 ?_
    refine wr_getI wf_X7_119 (wg_da dt_X7_knowers 9 rfl) (wg_ty Sc_ok 0 0 11 (wg_ty Sc_ok 10 0 2 (wg_ty Sc_ok 7 0 12 hx0 rfl (by decide)).2 rfl (by decide)).2 rfl (by decide)).2 ?_
    refine wr_icmp_ge 61 (wg_da dt_X7_knowers 10 rfl) (by decide) h (fun h => ?_) (fun h => ?_)
    · refine wr_iload_n (wg_da dt_X7_knowers 29 rfl) rfl ?_
      exact wr_iret (wg_da dt_X7_knowers 30 rfl) h
    · refine wr_iload_n (wg_da dt_X7_knowers 11 rfl) rfl ?_
      refine wr_iload (wg_da dt_X7_knowers 12 rfl) rfl ?_
      refine wr_ishr (wg_da dt_X7_knowers 13 rfl) ?_
      refine wr_iconst (1 : Int32) (wg_da dt_X7_knowers 14 rfl) (by decide) ?_
      refine wr_iand (wg_da dt_X7_knowers 15 rfl) ?_
      refine wr_iconst (1 : Int32) (wg_da dt_X7_knowers 16 rfl) (by decide) ?_
      refine wr_icmp_ne 55 (wg_da dt_X7_knowers 17 rfl) (by decide) h (fun h => ?_) (fun h => ?_)
      · refine wr_aload_n (wg_da dt_X7_knowers 18 rfl) rfl ?_
        refine wr_getR wf_X7_9 (wg_da dt_X7_knowers 19 rfl) hx0 ?_
        refine wr_getR wf_X7_19 (wg_da dt_X7_knowers 20 rfl) (wg_ty Sc_ok 7 0 12 hx0 rfl (by decide)).2 ?_
        refine wr_getR wf_X7_78 (wg_da dt_X7_knowers 21 rfl) (wg_ty Sc_ok 10 0 2 (wg_ty Sc_ok 7 0 12 hx0 rfl (by decide)).2 rfl (by decide)).2 ?_
        refine wr_iload (wg_da dt_X7_knowers 22 rfl) rfl ?_
        refine wr_iload_n (wg_da dt_X7_knowers 23 rfl) rfl ?_
        refine wr_callVi [.int x4, .int x2] [] (wg_da dt_X7_knowers 24 rfl) ⟨wq_5_230, wq_3_236, wq_3_237⟩ (wg_ty Sc_ok 0 0 11 (wg_ty Sc_ok 10 0 2 (wg_ty Sc_ok 7 0 12 hx0 rfl (by decide)).2 rfl (by decide)).2 rfl (by decide)).2 ⟨rfl, by decide⟩ wy_X9_knows (fun q hq => m_X9_knows l E (wg_r Sc (wg_r Sc (wg_r Sc x0 0) 0) 0) x4 x2 (wg_ty Sc_ok 0 0 11 (wg_ty Sc_ok 10 0 2 (wg_ty Sc_ok 7 0 12 hx0 rfl (by decide)).2 rfl (by decide)).2 rfl (by decide)).2 _ q hq) rfl rfl (Nat.le_of_ble_eq_true rfl) ⟨rfl, rfl, by decide, by decide⟩ h (fun v1 s2 h => ?_)
        refine wr_if_eq 55 (wg_da dt_X7_knowers 25 rfl) (by decide) h (fun h => ?_) (fun h => ?_)
        · exact wr_wk [true, true, true, true, true] (g_X7_knowers_55 l E (f_X7_knowers_5  n) x0 x1 x2 x3 x4 s2 _ hx0 (fun x0 x1 x2 x3 x4 σ hx0 h => ih x0 x1 x2 x3 x4 σ hx0 h) h)
        · refine wr_iinc (c0 := (1 : Int32)) (wg_da dt_X7_knowers 26 rfl) rfl (by decide) (by decide) h (fun v3 h => ?_)
          exact wr_wk [true, true, true, true, true] (g_X7_knowers_55 l E (f_X7_knowers_5  n) x0 x1 x2 v3 x4 s2 _ hx0 (fun x0 x1 x2 x3 x4 σ hx0 h => ih x0 x1 x2 x3 x4 σ hx0 h) h)
      · exact wr_wk [true, true, true, true, true] (g_X7_knowers_55 l E (f_X7_knowers_5  n) x0 x1 x2 x3 x4 σ _ hx0 (fun x0 x1 x2 x3 x4 σ hx0 h => ih x0 x1 x2 x3 x4 σ hx0 h) h)
set_option maxRecDepth 20000 in
theorem g_X7_knowers_e (l : Launch) (E : wg_E)  (x0 : Nat) (x1 : Int32) (x2 : Int32) (σ : wg_M) (z : Int32 × wg_M) (hx0 : wg_t Sc x0 = 9) (h : f_X7_knowers  x0 x1 x2 σ = some z) : wg_G l E Sc "WornWigs$Thought" cX7_knowers 5 (some .int) rm_X7_knowers (some z.1) z.2 0 [some (.ref x0), some (.int x1), some (.int x2), none, none] [] σ := by
  refine wr_iconst (0 : Int32) (wg_da dt_X7_knowers 0 rfl) (by decide) ?_
  refine wr_istore_n (wg_da dt_X7_knowers 1 rfl) (by decide) ?_
  refine wr_iconst (0 : Int32) (wg_da dt_X7_knowers 2 rfl) (by decide) ?_
  refine wr_istore (wg_da dt_X7_knowers 3 rfl) (by decide) ?_
  exact wr_wk [true, true, true, true, true] (g_X7_knowers_5 l E  _  wg_N x0 x1 x2 (0 : Int32) (0 : Int32) σ hx0 h)
theorem m_X7_knowers (l : Launch) (E : wg_E) (x0 : Nat) (x1 : Int32) (x2 : Int32) (hx0 : wg_t Sc x0 = 9) (σ : wg_M) (q : Int32 × wg_M) (h : f_X7_knowers x0 x1 x2 σ = some q) : wg_MG l E Sc yX7_knowers cX7_knowers 5 (some .int) rm_X7_knowers [.ref x0, .int x1, .int x2] σ (some q.1) q.2 :=
  wg_met [.ref x0, .int x1, .int x2] (plainFor_of_name (by decide)) (Nat.le_of_ble_eq_true rfl) (g_X7_knowers_e l E x0 x1 x2 σ q hx0 h)
abbrev rm_X7_causeToLookAt : Room := { frames := 4, cells := 0, slots := 0, locals := 92 }
def tb_X7_causeToLookAt : List (Nat × Instr × Nat) := [(0, .aload_n 0, 1), (1, .invokevirtual 123, 3), (4, .istore_n 1, 1), (5, .iload_n 1, 1), (6, .invokestatic 127, 3), (9, .istore_n 2, 1), (10, .iload_n 2, 1), (11, .iconst 2, 1), (12, .if_icmp .ge 5, 3), (15, .iconst (-1), 1), (16, .ireturn, 1), (17, .iconst (-1), 1), (18, .istore_n 3, 1), (19, .iconst 0, 1), (20, .istore 4, 2), (22, .iconst 0, 1), (23, .istore 5, 2), (25, .iload 5, 2), (27, .bipush 8, 2), (29, .if_icmp .ge 48, 3), (32, .aload_n 0, 1), (33, .iload_n 1, 1), (34, .iload 5, 2), (36, .invokevirtual 132, 3), (39, .istore 6, 2), (41, .iload 6, 2), (43, .iload_n 2, 1), (44, .iload 6, 2), (46, .isub, 1), (47, .invokestatic 135, 3), (50, .istore 7, 2), (52, .iload_n 3, 1), (53, .iconst (-1), 1), (54, .if_icmp .eq 10, 3), (57, .iload 7, 2), (59, .iload 4, 2), (61, .if_icmp .ge 10, 3), (64, .iload 5, 2), (66, .istore_n 3, 1), (67, .iload 7, 2), (69, .istore 4, 2), (71, .iinc 5 1, 3), (74, .goto (-49), 3), (77, .iload_n 3, 1), (78, .ireturn, 1)]
theorem dt_X7_causeToLookAt : wg_dc cX7_causeToLookAt tb_X7_causeToLookAt := by unfold wg_dc; decide +kernel
def f_X7_causeToLookAt_71 (k25 : Nat → Int32 → Int32 → Int32 → Int32 → Int32 → wg_M → Option (Int32 × wg_M)) (x0 : Nat) (x1 : Int32) (x2 : Int32) (x3 : Int32) (x4 : Int32) (x5 : Int32) (σ : wg_M) : Option (Int32 × wg_M) := wg_let (x5 + (1 : Int32)) (fun v1 => k25 x0 x1 x2 x3 x4 v1 σ)
def f_X7_causeToLookAt_64 (k25 : Nat → Int32 → Int32 → Int32 → Int32 → Int32 → wg_M → Option (Int32 × wg_M)) (x0 : Nat) (x1 : Int32) (x2 : Int32) (x5 : Int32) (x7 : Int32) (σ : wg_M) : Option (Int32 × wg_M) := f_X7_causeToLookAt_71 k25 x0 x1 x2 x5 x7 x5 σ
def f_X7_causeToLookAt_25  : Nat → Nat → Int32 → Int32 → Int32 → Int32 → Int32 → wg_M → Option (Int32 × wg_M)
  | 0, _, _, _, _, _, _, _ => none
  | n + 1, x0, x1, x2, x3, x4, x5, σ => if (8 : Int32) ≤ x5 then (some (x3, σ)) else (wg_bd (f_X7_knowers x0 x1 x5 σ) (fun v1 s2 => wg_bd (f_J9_max_7cf53 v1 (x2 - v1) s2) (fun v3 s4 => if x3 = (-1 : Int32) then (f_X7_causeToLookAt_64 (f_X7_causeToLookAt_25  n) x0 x1 x2 x5 v3 s4) else (if x4 ≤ v3 then (f_X7_causeToLookAt_71 (f_X7_causeToLookAt_25  n) x0 x1 x2 x3 x4 x5 s4) else (f_X7_causeToLookAt_64 (f_X7_causeToLookAt_25  n) x0 x1 x2 x5 v3 s4)))))
def f_X7_causeToLookAt  (x0 : Nat) (σ : wg_M) : Option (Int32 × wg_M) := wg_bd (f_X7_whoseSet x0 σ) (fun v1 s2 => wg_bd (f_J6_bitCount_0f7a4 v1 s2) (fun v3 s4 => if (2 : Int32) ≤ v3 then (f_X7_causeToLookAt_25  wg_N x0 v1 v3 (-1 : Int32) (0 : Int32) (0 : Int32) s4) else (some ((-1 : Int32), s4))))
set_option maxRecDepth 20000 in
theorem g_X7_causeToLookAt_71 (l : Launch) (E : wg_E) (k25 : Nat → Int32 → Int32 → Int32 → Int32 → Int32 → wg_M → Option (Int32 × wg_M)) (x0 : Nat) (x1 : Int32) (x2 : Int32) (x3 : Int32) (x4 : Int32) (x5 : Int32) (σ : wg_M) (z : Int32 × wg_M) (hx0 : wg_t Sc x0 = 9) (hk25 : ∀ (x0 : Nat) (x1 : Int32) (x2 : Int32) (x3 : Int32) (x4 : Int32) (x5 : Int32) (σ : wg_M), wg_t Sc x0 = 9 → k25 x0 x1 x2 x3 x4 x5 σ = some z → wg_G l E Sc "WornWigs$Thought" cX7_causeToLookAt 8 (some .int) rm_X7_causeToLookAt (some z.1) z.2 25 [some (.ref x0), some (.int x1), some (.int x2), some (.int x3), some (.int x4), some (.int x5), none, none] [] σ) (h : f_X7_causeToLookAt_71 k25 x0 x1 x2 x3 x4 x5 σ = some z) : wg_G l E Sc "WornWigs$Thought" cX7_causeToLookAt 8 (some .int) rm_X7_causeToLookAt (some z.1) z.2 71 [some (.ref x0), some (.int x1), some (.int x2), some (.int x3), some (.int x4), some (.int x5), none, none] [] σ := by
  refine wr_iinc (c0 := (1 : Int32)) (wg_da dt_X7_causeToLookAt 41 rfl) rfl (by decide) (by decide) h (fun v1 h => ?_)
  refine wr_goto 25 (wg_da dt_X7_causeToLookAt 42 rfl) (by decide) ?_
  exact wr_wk [true, true, true, true, true, true, false, false] (hk25 x0 x1 x2 x3 x4 v1 σ hx0 h)
set_option maxRecDepth 20000 in
theorem g_X7_causeToLookAt_64 (l : Launch) (E : wg_E) (k25 : Nat → Int32 → Int32 → Int32 → Int32 → Int32 → wg_M → Option (Int32 × wg_M)) (x0 : Nat) (x1 : Int32) (x2 : Int32) (x5 : Int32) (x7 : Int32) (σ : wg_M) (z : Int32 × wg_M) (hx0 : wg_t Sc x0 = 9) (hk25 : ∀ (x0 : Nat) (x1 : Int32) (x2 : Int32) (x3 : Int32) (x4 : Int32) (x5 : Int32) (σ : wg_M), wg_t Sc x0 = 9 → k25 x0 x1 x2 x3 x4 x5 σ = some z → wg_G l E Sc "WornWigs$Thought" cX7_causeToLookAt 8 (some .int) rm_X7_causeToLookAt (some z.1) z.2 25 [some (.ref x0), some (.int x1), some (.int x2), some (.int x3), some (.int x4), some (.int x5), none, none] [] σ) (h : f_X7_causeToLookAt_64 k25 x0 x1 x2 x5 x7 σ = some z) : wg_G l E Sc "WornWigs$Thought" cX7_causeToLookAt 8 (some .int) rm_X7_causeToLookAt (some z.1) z.2 64 [some (.ref x0), some (.int x1), some (.int x2), none, none, some (.int x5), none, some (.int x7)] [] σ := by
  refine wr_iload (wg_da dt_X7_causeToLookAt 37 rfl) rfl ?_
  refine wr_istore_n (wg_da dt_X7_causeToLookAt 38 rfl) (by decide) ?_
  refine wr_iload (wg_da dt_X7_causeToLookAt 39 rfl) rfl ?_
  refine wr_istore (wg_da dt_X7_causeToLookAt 40 rfl) (by decide) ?_
  exact wr_wk [true, true, true, true, true, true, false, false] (g_X7_causeToLookAt_71 l E k25 x0 x1 x2 x5 x7 x5 σ _ hx0 hk25 h)
set_option maxRecDepth 20000 in
theorem g_X7_causeToLookAt_25 (l : Launch) (E : wg_E)  (z : Int32 × wg_M) : ∀ (n : Nat) (x0 : Nat) (x1 : Int32) (x2 : Int32) (x3 : Int32) (x4 : Int32) (x5 : Int32) (σ : wg_M) (hx0 : wg_t Sc x0 = 9) (h : f_X7_causeToLookAt_25  n x0 x1 x2 x3 x4 x5 σ = some z), wg_G l E Sc "WornWigs$Thought" cX7_causeToLookAt 8 (some .int) rm_X7_causeToLookAt (some z.1) z.2 25 [some (.ref x0), some (.int x1), some (.int x2), some (.int x3), some (.int x4), some (.int x5), none, none] [] σ := by
  intro n
  induction n with
  | zero => intro x0 x1 x2 x3 x4 x5 σ hx0 h; cases h
  | succ n ih =>
    intro x0 x1 x2 x3 x4 x5 σ hx0 h
    refine wr_iload (wg_da dt_X7_causeToLookAt 17 rfl) rfl ?_
    refine wr_bipush (8 : Int32) (wg_da dt_X7_causeToLookAt 18 rfl) (by decide) ?_
    refine wr_icmp_ge 77 (wg_da dt_X7_causeToLookAt 19 rfl) (by decide) h (fun h => ?_) (fun h => ?_)
    · refine wr_iload_n (wg_da dt_X7_causeToLookAt 43 rfl) rfl ?_
      exact wr_iret (wg_da dt_X7_causeToLookAt 44 rfl) h
    · refine wr_aload_n (wg_da dt_X7_causeToLookAt 20 rfl) rfl ?_
      refine wr_iload_n (wg_da dt_X7_causeToLookAt 21 rfl) rfl ?_
      refine wr_iload (wg_da dt_X7_causeToLookAt 22 rfl) rfl ?_
      refine wr_callVi [.int x1, .int x5] [] (wg_da dt_X7_causeToLookAt 23 rfl) ⟨wq_5_237, wq_5_239, wq_p3_14⟩ hx0 ⟨rfl, by decide⟩ wy_X7_knowers (fun q hq => m_X7_knowers l E x0 x1 x5 hx0 _ q hq) rfl rfl (Nat.le_of_ble_eq_true rfl) ⟨rfl, rfl, by decide, by decide⟩ h (fun v1 s2 h => ?_)
      refine wr_istore (wg_da dt_X7_causeToLookAt 24 rfl) (by decide) ?_
      refine wr_iload (wg_da dt_X7_causeToLookAt 25 rfl) rfl ?_
      refine wr_iload_n (wg_da dt_X7_causeToLookAt 26 rfl) rfl ?_
      refine wr_iload (wg_da dt_X7_causeToLookAt 27 rfl) rfl ?_
      refine wr_isub (wg_da dt_X7_causeToLookAt 28 rfl) ?_
      refine wr_callSi [.int v1, .int (x2 - v1)] [] (wg_da dt_X7_causeToLookAt 29 rfl) ⟨wq_6_1, wq_1_202⟩ wy_J9_max_7cf53 (fun q hq => m_J9_max_7cf53 l E v1 (x2 - v1)  _ q hq) rfl rfl (Nat.le_of_ble_eq_true rfl) ⟨rfl, rfl, by decide, by decide⟩ h (fun v3 s4 h => ?_)
      refine wr_istore (wg_da dt_X7_causeToLookAt 30 rfl) (by decide) ?_
      refine wr_iload_n (wg_da dt_X7_causeToLookAt 31 rfl) rfl ?_
      refine wr_iconst (-1 : Int32) (wg_da dt_X7_causeToLookAt 32 rfl) (by decide) ?_
      refine wr_icmp_eq 64 (wg_da dt_X7_causeToLookAt 33 rfl) (by decide) h (fun h => ?_) (fun h => ?_)
      · exact wr_wk [true, true, true, false, false, true, false, true] (g_X7_causeToLookAt_64 l E (f_X7_causeToLookAt_25  n) x0 x1 x2 x5 v3 s4 _ hx0 (fun x0 x1 x2 x3 x4 x5 σ hx0 h => ih x0 x1 x2 x3 x4 x5 σ hx0 h) h)
      · refine wr_iload (wg_da dt_X7_causeToLookAt 34 rfl) rfl ?_
        refine wr_iload (wg_da dt_X7_causeToLookAt 35 rfl) rfl ?_
        refine wr_icmp_ge 71 (wg_da dt_X7_causeToLookAt 36 rfl) (by decide) h (fun h => ?_) (fun h => ?_)
        · exact wr_wk [true, true, true, true, true, true, false, false] (g_X7_causeToLookAt_71 l E (f_X7_causeToLookAt_25  n) x0 x1 x2 x3 x4 x5 s4 _ hx0 (fun x0 x1 x2 x3 x4 x5 σ hx0 h => ih x0 x1 x2 x3 x4 x5 σ hx0 h) h)
        · exact wr_wk [true, true, true, false, false, true, false, true] (g_X7_causeToLookAt_64 l E (f_X7_causeToLookAt_25  n) x0 x1 x2 x5 v3 s4 _ hx0 (fun x0 x1 x2 x3 x4 x5 σ hx0 h => ih x0 x1 x2 x3 x4 x5 σ hx0 h) h)
set_option maxRecDepth 20000 in
theorem g_X7_causeToLookAt_e (l : Launch) (E : wg_E)  (x0 : Nat) (σ : wg_M) (z : Int32 × wg_M) (hx0 : wg_t Sc x0 = 9) (h : f_X7_causeToLookAt  x0 σ = some z) : wg_G l E Sc "WornWigs$Thought" cX7_causeToLookAt 8 (some .int) rm_X7_causeToLookAt (some z.1) z.2 0 [some (.ref x0), none, none, none, none, none, none, none] [] σ := by
  refine wr_aload_n (wg_da dt_X7_causeToLookAt 0 rfl) rfl ?_
  refine wr_callVi [] [] (wg_da dt_X7_causeToLookAt 1 rfl) ⟨wq_5_235, wq_5_219, wq_5_220⟩ hx0 ⟨rfl, by decide⟩ wy_X7_whoseSet (fun q hq => m_X7_whoseSet l E x0 hx0 _ q hq) rfl rfl (Nat.le_of_ble_eq_true rfl) ⟨rfl, rfl, by decide, by decide⟩ h (fun v1 s2 h => ?_)
  refine wr_istore_n (wg_da dt_X7_causeToLookAt 2 rfl) (by decide) ?_
  refine wr_iload_n (wg_da dt_X7_causeToLookAt 3 rfl) rfl ?_
  refine wr_callSi [.int v1] [] (wg_da dt_X7_causeToLookAt 4 rfl) ⟨wq_5_236, wq_3_92⟩ wy_J6_bitCount_0f7a4 (fun q hq => m_J6_bitCount_0f7a4 l E v1  _ q hq) rfl rfl (Nat.le_of_ble_eq_true rfl) ⟨rfl, rfl, by decide, by decide⟩ h (fun v3 s4 h => ?_)
  refine wr_istore_n (wg_da dt_X7_causeToLookAt 5 rfl) (by decide) ?_
  refine wr_iload_n (wg_da dt_X7_causeToLookAt 6 rfl) rfl ?_
  refine wr_iconst (2 : Int32) (wg_da dt_X7_causeToLookAt 7 rfl) (by decide) ?_
  refine wr_icmp_ge 17 (wg_da dt_X7_causeToLookAt 8 rfl) (by decide) h (fun h => ?_) (fun h => ?_)
  · refine wr_iconst (-1 : Int32) (wg_da dt_X7_causeToLookAt 11 rfl) (by decide) ?_
    refine wr_istore_n (wg_da dt_X7_causeToLookAt 12 rfl) (by decide) ?_
    refine wr_iconst (0 : Int32) (wg_da dt_X7_causeToLookAt 13 rfl) (by decide) ?_
    refine wr_istore (wg_da dt_X7_causeToLookAt 14 rfl) (by decide) ?_
    refine wr_iconst (0 : Int32) (wg_da dt_X7_causeToLookAt 15 rfl) (by decide) ?_
    refine wr_istore (wg_da dt_X7_causeToLookAt 16 rfl) (by decide) ?_
    exact wr_wk [true, true, true, true, true, true, false, false] (g_X7_causeToLookAt_25 l E  _  wg_N x0 v1 v3 (-1 : Int32) (0 : Int32) (0 : Int32) s4 hx0 h)
  · refine wr_iconst (-1 : Int32) (wg_da dt_X7_causeToLookAt 9 rfl) (by decide) ?_
    exact wr_iret (wg_da dt_X7_causeToLookAt 10 rfl) h
theorem m_X7_causeToLookAt (l : Launch) (E : wg_E) (x0 : Nat) (hx0 : wg_t Sc x0 = 9) (σ : wg_M) (q : Int32 × wg_M) (h : f_X7_causeToLookAt x0 σ = some q) : wg_MG l E Sc yX7_causeToLookAt cX7_causeToLookAt 8 (some .int) rm_X7_causeToLookAt [.ref x0] σ (some q.1) q.2 :=
  wg_met [.ref x0] (plainFor_of_name (by decide)) (Nat.le_of_ble_eq_true rfl) (g_X7_causeToLookAt_e l E x0 σ q hx0 h)
abbrev rm_X8_copyFrom : Room := { frames := 2, cells := 0, slots := 0, locals := 61 }
def tb_X8_copyFrom : List (Nat × Instr × Nat) := [(0, .aload_n 1, 1), (1, .getfield 9, 3), (4, .aload_n 0, 1), (5, .getfield 9, 3), (8, .invokestatic 39, 3), (11, .aload_n 1, 1), (12, .getfield 15, 3), (15, .aload_n 0, 1), (16, .getfield 15, 3), (19, .invokestatic 39, 3), (22, .aload_n 1, 1), (23, .getfield 18, 3), (26, .aload_n 0, 1), (27, .getfield 18, 3), (30, .invokestatic 39, 3), (33, .aload_n 0, 1), (34, .aload_n 1, 1), (35, .getfield 43, 3), (38, .putfield 43, 3), (41, .aload_n 1, 1), (42, .getfield 21, 3), (45, .aload_n 0, 1), (46, .getfield 21, 3), (49, .invokestatic 39, 3), (52, .aload_n 1, 1), (53, .getfield 24, 3), (56, .aload_n 0, 1), (57, .getfield 24, 3), (60, .invokestatic 39, 3), (63, .aload_n 0, 1), (64, .aload_n 1, 1), (65, .getfield 47, 3), (68, .putfield 47, 3), (71, .aload_n 1, 1), (72, .getfield 27, 3), (75, .aload_n 0, 1), (76, .getfield 27, 3), (79, .invokestatic 39, 3), (82, .aload_n 1, 1), (83, .getfield 30, 3), (86, .aload_n 0, 1), (87, .getfield 30, 3), (90, .invokestatic 39, 3), (93, .aload_n 1, 1), (94, .getfield 33, 3), (97, .aload_n 0, 1), (98, .getfield 33, 3), (101, .invokestatic 39, 3), (104, .aload_n 0, 1), (105, .aload_n 1, 1), (106, .getfield 50, 3), (109, .putfield 50, 3), (112, .return_, 1)]
theorem dt_X8_copyFrom : wg_dc cX8_copyFrom tb_X8_copyFrom := by unfold wg_dc; decide +kernel
def f_X8_copyFrom  (x0 : Nat) (x1 : Nat) (σ : wg_M) : Option (Int32 × wg_M) := wg_bd (f_X11_copyRow (wg_r Sc x1 0) (wg_r Sc x0 0) σ) (fun _ s1 => wg_bd (f_X11_copyRow (wg_r Sc x1 1) (wg_r Sc x0 1) s1) (fun _ s2 => wg_bd (f_X11_copyRow (wg_r Sc x1 2) (wg_r Sc x0 2) s2) (fun _ s3 => wg_st s3 x0 3 (s3 x1 3) (fun s4 => wg_bd (f_X11_copyRow (wg_r Sc x1 4) (wg_r Sc x0 4) s4) (fun _ s5 => wg_bd (f_X11_copyRow (wg_r Sc x1 5) (wg_r Sc x0 5) s5) (fun _ s6 => wg_st s6 x0 6 (s6 x1 6) (fun s7 => wg_bd (f_X11_copyRow (wg_r Sc x1 7) (wg_r Sc x0 7) s7) (fun _ s8 => wg_bd (f_X11_copyRow (wg_r Sc x1 8) (wg_r Sc x0 8) s8) (fun _ s9 => wg_bd (f_X11_copyRow (wg_r Sc x1 9) (wg_r Sc x0 9) s9) (fun _ s10 => wg_st s10 x0 10 (s10 x1 10) (fun s11 => some (0, s11))))))))))))
set_option maxRecDepth 20000 in
theorem g_X8_copyFrom_e (l : Launch) (E : wg_E)  (x0 : Nat) (x1 : Nat) (σ : wg_M) (z : Int32 × wg_M) (hx0 : wg_t Sc x0 = 10) (hx1 : wg_t Sc x1 = 10) (h : f_X8_copyFrom  x0 x1 σ = some z) : wg_G l E Sc "WornWigs$Told" cX8_copyFrom 2 none rm_X8_copyFrom none z.2 0 [some (.ref x0), some (.ref x1)] [] σ := by
  refine wr_aload_n (wg_da dt_X8_copyFrom 0 rfl) rfl ?_
  refine wr_getR wf_X8_9 (wg_da dt_X8_copyFrom 1 rfl) hx1 ?_
  refine wr_aload_n (wg_da dt_X8_copyFrom 2 rfl) rfl ?_
  refine wr_getR wf_X8_9 (wg_da dt_X8_copyFrom 3 rfl) hx0 ?_
  refine wr_callNv [.ref (wg_r Sc x1 0), .ref (wg_r Sc x0 0)] [] (wg_da dt_X8_copyFrom 4 rfl) ⟨List.mem_of_getElem? (i := 19) rfl, wq_3_143⟩ wy_X11_copyRow (fun q hq => m_X11_copyRow l E (wg_r Sc x1 0) (wg_r Sc x0 0) (wg_ty Sc_ok 8 0 0 hx1 rfl (by decide)).2 (wg_ty Sc_ok 8 0 0 hx0 rfl (by decide)).2 _ q hq) rfl rfl (Nat.le_of_ble_eq_true rfl) ⟨rfl, rfl, by decide, by decide⟩ h (fun _ s1 h => ?_)
  refine wr_aload_n (wg_da dt_X8_copyFrom 5 rfl) rfl ?_
  refine wr_getR wf_X8_15 (wg_da dt_X8_copyFrom 6 rfl) hx1 ?_
  refine wr_aload_n (wg_da dt_X8_copyFrom 7 rfl) rfl ?_
  refine wr_getR wf_X8_15 (wg_da dt_X8_copyFrom 8 rfl) hx0 ?_
  refine wr_callNv [.ref (wg_r Sc x1 1), .ref (wg_r Sc x0 1)] [] (wg_da dt_X8_copyFrom 9 rfl) ⟨List.mem_of_getElem? (i := 19) rfl, wq_3_143⟩ wy_X11_copyRow (fun q hq => m_X11_copyRow l E (wg_r Sc x1 1) (wg_r Sc x0 1) (wg_ty Sc_ok 8 1 0 hx1 rfl (by decide)).2 (wg_ty Sc_ok 8 1 0 hx0 rfl (by decide)).2 _ q hq) rfl rfl (Nat.le_of_ble_eq_true rfl) ⟨rfl, rfl, by decide, by decide⟩ h (fun _ s2 h => ?_)
  refine wr_aload_n (wg_da dt_X8_copyFrom 10 rfl) rfl ?_
  refine wr_getR wf_X8_18 (wg_da dt_X8_copyFrom 11 rfl) hx1 ?_
  refine wr_aload_n (wg_da dt_X8_copyFrom 12 rfl) rfl ?_
  refine wr_getR wf_X8_18 (wg_da dt_X8_copyFrom 13 rfl) hx0 ?_
  refine wr_callNv [.ref (wg_r Sc x1 2), .ref (wg_r Sc x0 2)] [] (wg_da dt_X8_copyFrom 14 rfl) ⟨List.mem_of_getElem? (i := 19) rfl, wq_3_143⟩ wy_X11_copyRow (fun q hq => m_X11_copyRow l E (wg_r Sc x1 2) (wg_r Sc x0 2) (wg_ty Sc_ok 8 2 0 hx1 rfl (by decide)).2 (wg_ty Sc_ok 8 2 0 hx0 rfl (by decide)).2 _ q hq) rfl rfl (Nat.le_of_ble_eq_true rfl) ⟨rfl, rfl, by decide, by decide⟩ h (fun _ s3 h => ?_)
  refine wr_aload_n (wg_da dt_X8_copyFrom 15 rfl) rfl ?_
  refine wr_aload_n (wg_da dt_X8_copyFrom 16 rfl) rfl ?_
  refine wr_getI wf_X8_43 (wg_da dt_X8_copyFrom 17 rfl) hx1 ?_
  refine wr_putI wfp_X8_43 (wg_da dt_X8_copyFrom 18 rfl) hx0 h (fun s4 h => ?_)
  refine wr_aload_n (wg_da dt_X8_copyFrom 19 rfl) rfl ?_
  refine wr_getR wf_X8_21 (wg_da dt_X8_copyFrom 20 rfl) hx1 ?_
  refine wr_aload_n (wg_da dt_X8_copyFrom 21 rfl) rfl ?_
  refine wr_getR wf_X8_21 (wg_da dt_X8_copyFrom 22 rfl) hx0 ?_
  refine wr_callNv [.ref (wg_r Sc x1 4), .ref (wg_r Sc x0 4)] [] (wg_da dt_X8_copyFrom 23 rfl) ⟨List.mem_of_getElem? (i := 19) rfl, wq_3_143⟩ wy_X11_copyRow (fun q hq => m_X11_copyRow l E (wg_r Sc x1 4) (wg_r Sc x0 4) (wg_ty Sc_ok 8 4 0 hx1 rfl (by decide)).2 (wg_ty Sc_ok 8 4 0 hx0 rfl (by decide)).2 _ q hq) rfl rfl (Nat.le_of_ble_eq_true rfl) ⟨rfl, rfl, by decide, by decide⟩ h (fun _ s5 h => ?_)
  refine wr_aload_n (wg_da dt_X8_copyFrom 24 rfl) rfl ?_
  refine wr_getR wf_X8_24 (wg_da dt_X8_copyFrom 25 rfl) hx1 ?_
  refine wr_aload_n (wg_da dt_X8_copyFrom 26 rfl) rfl ?_
  refine wr_getR wf_X8_24 (wg_da dt_X8_copyFrom 27 rfl) hx0 ?_
  refine wr_callNv [.ref (wg_r Sc x1 5), .ref (wg_r Sc x0 5)] [] (wg_da dt_X8_copyFrom 28 rfl) ⟨List.mem_of_getElem? (i := 19) rfl, wq_3_143⟩ wy_X11_copyRow (fun q hq => m_X11_copyRow l E (wg_r Sc x1 5) (wg_r Sc x0 5) (wg_ty Sc_ok 8 5 0 hx1 rfl (by decide)).2 (wg_ty Sc_ok 8 5 0 hx0 rfl (by decide)).2 _ q hq) rfl rfl (Nat.le_of_ble_eq_true rfl) ⟨rfl, rfl, by decide, by decide⟩ h (fun _ s6 h => ?_)
  refine wr_aload_n (wg_da dt_X8_copyFrom 29 rfl) rfl ?_
  refine wr_aload_n (wg_da dt_X8_copyFrom 30 rfl) rfl ?_
  refine wr_getI wf_X8_47 (wg_da dt_X8_copyFrom 31 rfl) hx1 ?_
  refine wr_putI wfp_X8_47 (wg_da dt_X8_copyFrom 32 rfl) hx0 h (fun s7 h => ?_)
  refine wr_aload_n (wg_da dt_X8_copyFrom 33 rfl) rfl ?_
  refine wr_getR wf_X8_27 (wg_da dt_X8_copyFrom 34 rfl) hx1 ?_
  refine wr_aload_n (wg_da dt_X8_copyFrom 35 rfl) rfl ?_
  refine wr_getR wf_X8_27 (wg_da dt_X8_copyFrom 36 rfl) hx0 ?_
  refine wr_callNv [.ref (wg_r Sc x1 7), .ref (wg_r Sc x0 7)] [] (wg_da dt_X8_copyFrom 37 rfl) ⟨List.mem_of_getElem? (i := 19) rfl, wq_3_143⟩ wy_X11_copyRow (fun q hq => m_X11_copyRow l E (wg_r Sc x1 7) (wg_r Sc x0 7) (wg_ty Sc_ok 8 7 0 hx1 rfl (by decide)).2 (wg_ty Sc_ok 8 7 0 hx0 rfl (by decide)).2 _ q hq) rfl rfl (Nat.le_of_ble_eq_true rfl) ⟨rfl, rfl, by decide, by decide⟩ h (fun _ s8 h => ?_)
  refine wr_aload_n (wg_da dt_X8_copyFrom 38 rfl) rfl ?_
  refine wr_getR wf_X8_30 (wg_da dt_X8_copyFrom 39 rfl) hx1 ?_
  refine wr_aload_n (wg_da dt_X8_copyFrom 40 rfl) rfl ?_
  refine wr_getR wf_X8_30 (wg_da dt_X8_copyFrom 41 rfl) hx0 ?_
  refine wr_callNv [.ref (wg_r Sc x1 8), .ref (wg_r Sc x0 8)] [] (wg_da dt_X8_copyFrom 42 rfl) ⟨List.mem_of_getElem? (i := 19) rfl, wq_3_143⟩ wy_X11_copyRow (fun q hq => m_X11_copyRow l E (wg_r Sc x1 8) (wg_r Sc x0 8) (wg_ty Sc_ok 8 8 0 hx1 rfl (by decide)).2 (wg_ty Sc_ok 8 8 0 hx0 rfl (by decide)).2 _ q hq) rfl rfl (Nat.le_of_ble_eq_true rfl) ⟨rfl, rfl, by decide, by decide⟩ h (fun _ s9 h => ?_)
  refine wr_aload_n (wg_da dt_X8_copyFrom 43 rfl) rfl ?_
  refine wr_getR wf_X8_33 (wg_da dt_X8_copyFrom 44 rfl) hx1 ?_
  refine wr_aload_n (wg_da dt_X8_copyFrom 45 rfl) rfl ?_
  refine wr_getR wf_X8_33 (wg_da dt_X8_copyFrom 46 rfl) hx0 ?_
  refine wr_callNv [.ref (wg_r Sc x1 9), .ref (wg_r Sc x0 9)] [] (wg_da dt_X8_copyFrom 47 rfl) ⟨List.mem_of_getElem? (i := 19) rfl, wq_3_143⟩ wy_X11_copyRow (fun q hq => m_X11_copyRow l E (wg_r Sc x1 9) (wg_r Sc x0 9) (wg_ty Sc_ok 8 9 0 hx1 rfl (by decide)).2 (wg_ty Sc_ok 8 9 0 hx0 rfl (by decide)).2 _ q hq) rfl rfl (Nat.le_of_ble_eq_true rfl) ⟨rfl, rfl, by decide, by decide⟩ h (fun _ s10 h => ?_)
  refine wr_aload_n (wg_da dt_X8_copyFrom 48 rfl) rfl ?_
  refine wr_aload_n (wg_da dt_X8_copyFrom 49 rfl) rfl ?_
  refine wr_getI wf_X8_50 (wg_da dt_X8_copyFrom 50 rfl) hx1 ?_
  refine wr_putI wfp_X8_50 (wg_da dt_X8_copyFrom 51 rfl) hx0 h (fun s11 h => ?_)
  exact wr_vret (wg_da dt_X8_copyFrom 52 rfl) h
theorem m_X8_copyFrom (l : Launch) (E : wg_E) (x0 : Nat) (x1 : Nat) (hx0 : wg_t Sc x0 = 10) (hx1 : wg_t Sc x1 = 10) (σ : wg_M) (q : Int32 × wg_M) (h : f_X8_copyFrom x0 x1 σ = some q) : wg_MG l E Sc yX8_copyFrom cX8_copyFrom 2 none rm_X8_copyFrom [.ref x0, .ref x1] σ none q.2 :=
  wg_met [.ref x0, .ref x1] (plainFor_of_name (by decide)) (Nat.le_of_ble_eq_true rfl) (g_X8_copyFrom_e l E x0 x1 σ q hx0 hx1 h)
abbrev rm_X8_addTrait : Room := { frames := 1, cells := 0, slots := 0, locals := 22 }
def tb_X8_addTrait : List (Nat × Instr × Nat) := [(0, .aload_n 0, 1), (1, .getfield 43, 3), (4, .bipush 8, 2), (6, .if_icmp .ge 12, 3), (9, .iload_n 1, 1), (10, .iconst 0, 1), (11, .iconst 3, 1), (12, .invokestatic 53, 3), (15, .ifCond .ne 5, 3), (18, .iconst (-1), 1), (19, .ireturn, 1), (20, .iload_n 1, 1), (21, .ifCond .ne 7, 3), (24, .iconst 2, 1), (25, .goto 15, 3), (28, .iload_n 1, 1), (29, .iconst 2, 1), (30, .if_icmp .ne 8, 3), (33, .bipush 7, 2), (35, .goto 5, 3), (38, .bipush 99, 2), (40, .istore 4, 2), (42, .iload_n 2, 1), (43, .iconst 0, 1), (44, .iload 4, 2), (46, .invokestatic 53, 3), (49, .ifCond .ne 5, 3), (52, .iconst (-1), 1), (53, .ireturn, 1), (54, .aload_n 0, 1), (55, .getfield 9, 3), (58, .aload_n 0, 1), (59, .getfield 43, 3), (62, .iload_n 1, 1), (63, .iastore, 1), (64, .aload_n 0, 1), (65, .getfield 15, 3), (68, .aload_n 0, 1), (69, .getfield 43, 3), (72, .iload_n 2, 1), (73, .iastore, 1), (74, .aload_n 0, 1), (75, .getfield 18, 3), (78, .aload_n 0, 1), (79, .getfield 43, 3), (82, .iload_n 3, 1), (83, .iastore, 1), (84, .aload_n 0, 1), (85, .dup, 1), (86, .getfield 43, 3), (89, .iconst 1, 1), (90, .iadd, 1), (91, .putfield 43, 3), (94, .aload_n 0, 1), (95, .getfield 43, 3), (98, .ireturn, 1)]
theorem dt_X8_addTrait : wg_dc cX8_addTrait tb_X8_addTrait := by unfold wg_dc; decide +kernel
def f_X8_addTrait_40  (x0 : Nat) (x1 : Int32) (x2 : Int32) (x3 : Int32) (t0 : Int32) (σ : wg_M) : Option (Int32 × wg_M) := wg_bd (f_X11_within x2 (0 : Int32) t0 σ) (fun v1 s2 => if v1 = 0 then (some ((-1 : Int32), s2)) else (wg_sa (wg_n Sc (wg_r Sc x0 0)) s2 (wg_r Sc x0 0) (s2 x0 3) x1 (fun s3 => wg_sa (wg_n Sc (wg_r Sc x0 1)) s3 (wg_r Sc x0 1) (s3 x0 3) x2 (fun s4 => wg_sa (wg_n Sc (wg_r Sc x0 2)) s4 (wg_r Sc x0 2) (s4 x0 3) x3 (fun s5 => wg_st s5 x0 3 ((s5 x0 3) + (1 : Int32)) (fun s6 => some (s6 x0 3, s6)))))))
def f_X8_addTrait  (x0 : Nat) (x1 : Int32) (x2 : Int32) (x3 : Int32) (σ : wg_M) : Option (Int32 × wg_M) := if (8 : Int32) ≤ (σ x0 3) then (some ((-1 : Int32), σ)) else (wg_bd (f_X11_within x1 (0 : Int32) (3 : Int32) σ) (fun v1 s2 => if v1 = 0 then (some ((-1 : Int32), s2)) else (if x1 = 0 then (f_X8_addTrait_40  x0 x1 x2 x3 (2 : Int32) s2) else (if x1 = (2 : Int32) then (f_X8_addTrait_40  x0 x1 x2 x3 (7 : Int32) s2) else (f_X8_addTrait_40  x0 x1 x2 x3 (99 : Int32) s2)))))
set_option maxRecDepth 20000 in
theorem g_X8_addTrait_40 (l : Launch) (E : wg_E)  (x0 : Nat) (x1 : Int32) (x2 : Int32) (x3 : Int32) (t0 : Int32) (σ : wg_M) (z : Int32 × wg_M) (hx0 : wg_t Sc x0 = 10) (h : f_X8_addTrait_40  x0 x1 x2 x3 t0 σ = some z) : wg_G l E Sc "WornWigs$Told" cX8_addTrait 5 (some .int) rm_X8_addTrait (some z.1) z.2 40 [some (.ref x0), some (.int x1), some (.int x2), some (.int x3), none] [.int t0] σ := by
  refine wr_istore (wg_da dt_X8_addTrait 21 rfl) (by decide) ?_
  refine wr_iload_n (wg_da dt_X8_addTrait 22 rfl) rfl ?_
  refine wr_iconst (0 : Int32) (wg_da dt_X8_addTrait 23 rfl) (by decide) ?_
  refine wr_iload (wg_da dt_X8_addTrait 24 rfl) rfl ?_
  refine wr_callNi [.int x2, .int (0 : Int32), .int t0] [] (wg_da dt_X8_addTrait 25 rfl) ⟨List.mem_of_getElem? (i := 18) rfl, wq_3_49⟩ wy_X11_within (fun q hq => m_X11_within l E x2 (0 : Int32) t0  _ q hq) rfl rfl (Nat.le_of_ble_eq_true rfl) ⟨rfl, rfl, by decide, by decide⟩ h (fun v1 s2 h => ?_)
  refine wr_if_ne 54 (wg_da dt_X8_addTrait 26 rfl) (by decide) h (fun h => ?_) (fun h => ?_)
  · refine wr_iconst (-1 : Int32) (wg_da dt_X8_addTrait 27 rfl) (by decide) ?_
    exact wr_iret (wg_da dt_X8_addTrait 28 rfl) h
  · refine wr_aload_n (wg_da dt_X8_addTrait 29 rfl) rfl ?_
    refine wr_getR wf_X8_9 (wg_da dt_X8_addTrait 30 rfl) hx0 ?_
    refine wr_aload_n (wg_da dt_X8_addTrait 31 rfl) rfl ?_
    refine wr_getI wf_X8_43 (wg_da dt_X8_addTrait 32 rfl) hx0 ?_
    refine wr_iload_n (wg_da dt_X8_addTrait 33 rfl) rfl ?_
    refine wr_iast (wg_da dt_X8_addTrait 34 rfl) (wg_ty Sc_ok 8 0 0 hx0 rfl (by decide)).2 h (fun s3 h => ?_)
    refine wr_aload_n (wg_da dt_X8_addTrait 35 rfl) rfl ?_
    refine wr_getR wf_X8_15 (wg_da dt_X8_addTrait 36 rfl) hx0 ?_
    refine wr_aload_n (wg_da dt_X8_addTrait 37 rfl) rfl ?_
    refine wr_getI wf_X8_43 (wg_da dt_X8_addTrait 38 rfl) hx0 ?_
    refine wr_iload_n (wg_da dt_X8_addTrait 39 rfl) rfl ?_
    refine wr_iast (wg_da dt_X8_addTrait 40 rfl) (wg_ty Sc_ok 8 1 0 hx0 rfl (by decide)).2 h (fun s4 h => ?_)
    refine wr_aload_n (wg_da dt_X8_addTrait 41 rfl) rfl ?_
    refine wr_getR wf_X8_18 (wg_da dt_X8_addTrait 42 rfl) hx0 ?_
    refine wr_aload_n (wg_da dt_X8_addTrait 43 rfl) rfl ?_
    refine wr_getI wf_X8_43 (wg_da dt_X8_addTrait 44 rfl) hx0 ?_
    refine wr_iload_n (wg_da dt_X8_addTrait 45 rfl) rfl ?_
    refine wr_iast (wg_da dt_X8_addTrait 46 rfl) (wg_ty Sc_ok 8 2 0 hx0 rfl (by decide)).2 h (fun s5 h => ?_)
    refine wr_aload_n (wg_da dt_X8_addTrait 47 rfl) rfl ?_
    refine wr_dup (wg_da dt_X8_addTrait 48 rfl) ?_
    refine wr_getI wf_X8_43 (wg_da dt_X8_addTrait 49 rfl) hx0 ?_
    refine wr_iconst (1 : Int32) (wg_da dt_X8_addTrait 50 rfl) (by decide) ?_
    refine wr_iadd (wg_da dt_X8_addTrait 51 rfl) ?_
    refine wr_putI wfp_X8_43 (wg_da dt_X8_addTrait 52 rfl) hx0 h (fun s6 h => ?_)
    refine wr_aload_n (wg_da dt_X8_addTrait 53 rfl) rfl ?_
    refine wr_getI wf_X8_43 (wg_da dt_X8_addTrait 54 rfl) hx0 ?_
    exact wr_iret (wg_da dt_X8_addTrait 55 rfl) h
set_option maxRecDepth 20000 in
theorem g_X8_addTrait_e (l : Launch) (E : wg_E)  (x0 : Nat) (x1 : Int32) (x2 : Int32) (x3 : Int32) (σ : wg_M) (z : Int32 × wg_M) (hx0 : wg_t Sc x0 = 10) (h : f_X8_addTrait  x0 x1 x2 x3 σ = some z) : wg_G l E Sc "WornWigs$Told" cX8_addTrait 5 (some .int) rm_X8_addTrait (some z.1) z.2 0 [some (.ref x0), some (.int x1), some (.int x2), some (.int x3), none] [] σ := by
  refine wr_aload_n (wg_da dt_X8_addTrait 0 rfl) rfl ?_
  refine wr_getI wf_X8_43 (wg_da dt_X8_addTrait 1 rfl) hx0 ?_
  refine wr_bipush (8 : Int32) (wg_da dt_X8_addTrait 2 rfl) (by decide) ?_
  refine wr_icmp_ge 18 (wg_da dt_X8_addTrait 3 rfl) (by decide) h (fun h => ?_) (fun h => ?_)
  · refine wr_iconst (-1 : Int32) (wg_da dt_X8_addTrait 9 rfl) (by decide) ?_
    exact wr_iret (wg_da dt_X8_addTrait 10 rfl) h
  · refine wr_iload_n (wg_da dt_X8_addTrait 4 rfl) rfl ?_
    refine wr_iconst (0 : Int32) (wg_da dt_X8_addTrait 5 rfl) (by decide) ?_
    refine wr_iconst (3 : Int32) (wg_da dt_X8_addTrait 6 rfl) (by decide) ?_
    refine wr_callNi [.int x1, .int (0 : Int32), .int (3 : Int32)] [] (wg_da dt_X8_addTrait 7 rfl) ⟨List.mem_of_getElem? (i := 18) rfl, wq_3_49⟩ wy_X11_within (fun q hq => m_X11_within l E x1 (0 : Int32) (3 : Int32)  _ q hq) rfl rfl (Nat.le_of_ble_eq_true rfl) ⟨rfl, rfl, by decide, by decide⟩ h (fun v1 s2 h => ?_)
    refine wr_if_ne 20 (wg_da dt_X8_addTrait 8 rfl) (by decide) h (fun h => ?_) (fun h => ?_)
    · refine wr_iconst (-1 : Int32) (wg_da dt_X8_addTrait 9 rfl) (by decide) ?_
      exact wr_iret (wg_da dt_X8_addTrait 10 rfl) h
    · refine wr_iload_n (wg_da dt_X8_addTrait 11 rfl) rfl ?_
      refine wr_if_ne 28 (wg_da dt_X8_addTrait 12 rfl) (by decide) h (fun h => ?_) (fun h => ?_)
      · refine wr_iconst (2 : Int32) (wg_da dt_X8_addTrait 13 rfl) (by decide) ?_
        refine wr_goto 40 (wg_da dt_X8_addTrait 14 rfl) (by decide) ?_
        exact wr_wk [true, true, true, true, false] (g_X8_addTrait_40 l E  x0 x1 x2 x3 (2 : Int32) s2 _ hx0  h)
      · refine wr_iload_n (wg_da dt_X8_addTrait 15 rfl) rfl ?_
        refine wr_iconst (2 : Int32) (wg_da dt_X8_addTrait 16 rfl) (by decide) ?_
        refine wr_icmp_ne 38 (wg_da dt_X8_addTrait 17 rfl) (by decide) h (fun h => ?_) (fun h => ?_)
        · refine wr_bipush (7 : Int32) (wg_da dt_X8_addTrait 18 rfl) (by decide) ?_
          refine wr_goto 40 (wg_da dt_X8_addTrait 19 rfl) (by decide) ?_
          exact wr_wk [true, true, true, true, false] (g_X8_addTrait_40 l E  x0 x1 x2 x3 (7 : Int32) s2 _ hx0  h)
        · refine wr_bipush (99 : Int32) (wg_da dt_X8_addTrait 20 rfl) (by decide) ?_
          exact wr_wk [true, true, true, true, false] (g_X8_addTrait_40 l E  x0 x1 x2 x3 (99 : Int32) s2 _ hx0  h)
theorem m_X8_addTrait (l : Launch) (E : wg_E) (x0 : Nat) (x1 : Int32) (x2 : Int32) (x3 : Int32) (hx0 : wg_t Sc x0 = 10) (σ : wg_M) (q : Int32 × wg_M) (h : f_X8_addTrait x0 x1 x2 x3 σ = some q) : wg_MG l E Sc yX8_addTrait cX8_addTrait 5 (some .int) rm_X8_addTrait [.ref x0, .int x1, .int x2, .int x3] σ (some q.1) q.2 :=
  wg_met [.ref x0, .int x1, .int x2, .int x3] (plainFor_of_name (by decide)) (Nat.le_of_ble_eq_true rfl) (g_X8_addTrait_e l E x0 x1 x2 x3 σ q hx0 h)
abbrev rm_X8_addCite : Room := { frames := 1, cells := 0, slots := 0, locals := 22 }
def tb_X8_addCite : List (Nat × Instr × Nat) := [(0, .iload_n 1, 1), (1, .iconst 0, 1), (2, .bipush 13, 2), (4, .invokestatic 53, 3), (7, .ifCond .eq 22, 3), (10, .iload_n 2, 1), (11, .iconst 0, 1), (12, .bipush 13, 2), (14, .invokestatic 53, 3), (17, .ifCond .eq 12, 3), (20, .iload_n 1, 1), (21, .iload_n 2, 1), (22, .if_icmp .eq 7, 3), (25, .iconst 1, 1), (26, .goto 4, 3), (29, .iconst 0, 1), (30, .istore_n 3, 1), (31, .iload_n 3, 1), (32, .ifCond .eq 12, 3), (35, .aload_n 0, 1), (36, .getfield 47, 3), (39, .bipush 16, 2), (41, .if_icmp .lt 5, 3), (44, .iconst (-1), 1), (45, .ireturn, 1), (46, .aload_n 0, 1), (47, .getfield 21, 3), (50, .aload_n 0, 1), (51, .getfield 47, 3), (54, .iload_n 1, 1), (55, .iastore, 1), (56, .aload_n 0, 1), (57, .getfield 24, 3), (60, .aload_n 0, 1), (61, .getfield 47, 3), (64, .iload_n 2, 1), (65, .iastore, 1), (66, .aload_n 0, 1), (67, .dup, 1), (68, .getfield 47, 3), (71, .iconst 1, 1), (72, .iadd, 1), (73, .putfield 47, 3), (76, .aload_n 0, 1), (77, .getfield 47, 3), (80, .ireturn, 1)]
theorem dt_X8_addCite : wg_dc cX8_addCite tb_X8_addCite := by unfold wg_dc; decide +kernel
def f_X8_addCite_30  (x0 : Nat) (x1 : Int32) (x2 : Int32) (t0 : Int32) (σ : wg_M) : Option (Int32 × wg_M) := if t0 = 0 then (some ((-1 : Int32), σ)) else (if (σ x0 6) < (16 : Int32) then (wg_sa (wg_n Sc (wg_r Sc x0 4)) σ (wg_r Sc x0 4) (σ x0 6) x1 (fun s1 => wg_sa (wg_n Sc (wg_r Sc x0 5)) s1 (wg_r Sc x0 5) (s1 x0 6) x2 (fun s2 => wg_st s2 x0 6 ((s2 x0 6) + (1 : Int32)) (fun s3 => some (s3 x0 6, s3))))) else (some ((-1 : Int32), σ)))
def f_X8_addCite_29  (x0 : Nat) (x1 : Int32) (x2 : Int32) (σ : wg_M) : Option (Int32 × wg_M) := f_X8_addCite_30  x0 x1 x2 (0 : Int32) σ
def f_X8_addCite  (x0 : Nat) (x1 : Int32) (x2 : Int32) (σ : wg_M) : Option (Int32 × wg_M) := wg_bd (f_X11_within x1 (0 : Int32) (13 : Int32) σ) (fun v1 s2 => if v1 = 0 then (f_X8_addCite_29  x0 x1 x2 s2) else (wg_bd (f_X11_within x2 (0 : Int32) (13 : Int32) s2) (fun v3 s4 => if v3 = 0 then (f_X8_addCite_29  x0 x1 x2 s4) else (if x1 = x2 then (f_X8_addCite_29  x0 x1 x2 s4) else (f_X8_addCite_30  x0 x1 x2 (1 : Int32) s4)))))
set_option maxRecDepth 20000 in
theorem g_X8_addCite_30 (l : Launch) (E : wg_E)  (x0 : Nat) (x1 : Int32) (x2 : Int32) (t0 : Int32) (σ : wg_M) (z : Int32 × wg_M) (hx0 : wg_t Sc x0 = 10) (h : f_X8_addCite_30  x0 x1 x2 t0 σ = some z) : wg_G l E Sc "WornWigs$Told" cX8_addCite 4 (some .int) rm_X8_addCite (some z.1) z.2 30 [some (.ref x0), some (.int x1), some (.int x2), none] [.int t0] σ := by
  refine wr_istore_n (wg_da dt_X8_addCite 16 rfl) (by decide) ?_
  refine wr_iload_n (wg_da dt_X8_addCite 17 rfl) rfl ?_
  refine wr_if_eq 44 (wg_da dt_X8_addCite 18 rfl) (by decide) h (fun h => ?_) (fun h => ?_)
  · refine wr_iconst (-1 : Int32) (wg_da dt_X8_addCite 23 rfl) (by decide) ?_
    exact wr_iret (wg_da dt_X8_addCite 24 rfl) h
  · refine wr_aload_n (wg_da dt_X8_addCite 19 rfl) rfl ?_
    refine wr_getI wf_X8_47 (wg_da dt_X8_addCite 20 rfl) hx0 ?_
    refine wr_bipush (16 : Int32) (wg_da dt_X8_addCite 21 rfl) (by decide) ?_
    refine wr_icmp_lt 46 (wg_da dt_X8_addCite 22 rfl) (by decide) h (fun h => ?_) (fun h => ?_)
    · refine wr_aload_n (wg_da dt_X8_addCite 25 rfl) rfl ?_
      refine wr_getR wf_X8_21 (wg_da dt_X8_addCite 26 rfl) hx0 ?_
      refine wr_aload_n (wg_da dt_X8_addCite 27 rfl) rfl ?_
      refine wr_getI wf_X8_47 (wg_da dt_X8_addCite 28 rfl) hx0 ?_
      refine wr_iload_n (wg_da dt_X8_addCite 29 rfl) rfl ?_
      refine wr_iast (wg_da dt_X8_addCite 30 rfl) (wg_ty Sc_ok 8 4 0 hx0 rfl (by decide)).2 h (fun s1 h => ?_)
      refine wr_aload_n (wg_da dt_X8_addCite 31 rfl) rfl ?_
      refine wr_getR wf_X8_24 (wg_da dt_X8_addCite 32 rfl) hx0 ?_
      refine wr_aload_n (wg_da dt_X8_addCite 33 rfl) rfl ?_
      refine wr_getI wf_X8_47 (wg_da dt_X8_addCite 34 rfl) hx0 ?_
      refine wr_iload_n (wg_da dt_X8_addCite 35 rfl) rfl ?_
      refine wr_iast (wg_da dt_X8_addCite 36 rfl) (wg_ty Sc_ok 8 5 0 hx0 rfl (by decide)).2 h (fun s2 h => ?_)
      refine wr_aload_n (wg_da dt_X8_addCite 37 rfl) rfl ?_
      refine wr_dup (wg_da dt_X8_addCite 38 rfl) ?_
      refine wr_getI wf_X8_47 (wg_da dt_X8_addCite 39 rfl) hx0 ?_
      refine wr_iconst (1 : Int32) (wg_da dt_X8_addCite 40 rfl) (by decide) ?_
      refine wr_iadd (wg_da dt_X8_addCite 41 rfl) ?_
      refine wr_putI wfp_X8_47 (wg_da dt_X8_addCite 42 rfl) hx0 h (fun s3 h => ?_)
      refine wr_aload_n (wg_da dt_X8_addCite 43 rfl) rfl ?_
      refine wr_getI wf_X8_47 (wg_da dt_X8_addCite 44 rfl) hx0 ?_
      exact wr_iret (wg_da dt_X8_addCite 45 rfl) h
    · refine wr_iconst (-1 : Int32) (wg_da dt_X8_addCite 23 rfl) (by decide) ?_
      exact wr_iret (wg_da dt_X8_addCite 24 rfl) h
set_option maxRecDepth 20000 in
theorem g_X8_addCite_29 (l : Launch) (E : wg_E)  (x0 : Nat) (x1 : Int32) (x2 : Int32) (σ : wg_M) (z : Int32 × wg_M) (hx0 : wg_t Sc x0 = 10) (h : f_X8_addCite_29  x0 x1 x2 σ = some z) : wg_G l E Sc "WornWigs$Told" cX8_addCite 4 (some .int) rm_X8_addCite (some z.1) z.2 29 [some (.ref x0), some (.int x1), some (.int x2), none] [] σ := by
  refine wr_iconst (0 : Int32) (wg_da dt_X8_addCite 15 rfl) (by decide) ?_
  exact wr_wk [true, true, true, false] (g_X8_addCite_30 l E  x0 x1 x2 (0 : Int32) σ _ hx0  h)
set_option maxRecDepth 20000 in
theorem g_X8_addCite_e (l : Launch) (E : wg_E)  (x0 : Nat) (x1 : Int32) (x2 : Int32) (σ : wg_M) (z : Int32 × wg_M) (hx0 : wg_t Sc x0 = 10) (h : f_X8_addCite  x0 x1 x2 σ = some z) : wg_G l E Sc "WornWigs$Told" cX8_addCite 4 (some .int) rm_X8_addCite (some z.1) z.2 0 [some (.ref x0), some (.int x1), some (.int x2), none] [] σ := by
  refine wr_iload_n (wg_da dt_X8_addCite 0 rfl) rfl ?_
  refine wr_iconst (0 : Int32) (wg_da dt_X8_addCite 1 rfl) (by decide) ?_
  refine wr_bipush (13 : Int32) (wg_da dt_X8_addCite 2 rfl) (by decide) ?_
  refine wr_callNi [.int x1, .int (0 : Int32), .int (13 : Int32)] [] (wg_da dt_X8_addCite 3 rfl) ⟨List.mem_of_getElem? (i := 18) rfl, wq_3_49⟩ wy_X11_within (fun q hq => m_X11_within l E x1 (0 : Int32) (13 : Int32)  _ q hq) rfl rfl (Nat.le_of_ble_eq_true rfl) ⟨rfl, rfl, by decide, by decide⟩ h (fun v1 s2 h => ?_)
  refine wr_if_eq 29 (wg_da dt_X8_addCite 4 rfl) (by decide) h (fun h => ?_) (fun h => ?_)
  · exact wr_wk [true, true, true, false] (g_X8_addCite_29 l E  x0 x1 x2 s2 _ hx0  h)
  · refine wr_iload_n (wg_da dt_X8_addCite 5 rfl) rfl ?_
    refine wr_iconst (0 : Int32) (wg_da dt_X8_addCite 6 rfl) (by decide) ?_
    refine wr_bipush (13 : Int32) (wg_da dt_X8_addCite 7 rfl) (by decide) ?_
    refine wr_callNi [.int x2, .int (0 : Int32), .int (13 : Int32)] [] (wg_da dt_X8_addCite 8 rfl) ⟨List.mem_of_getElem? (i := 18) rfl, wq_3_49⟩ wy_X11_within (fun q hq => m_X11_within l E x2 (0 : Int32) (13 : Int32)  _ q hq) rfl rfl (Nat.le_of_ble_eq_true rfl) ⟨rfl, rfl, by decide, by decide⟩ h (fun v3 s4 h => ?_)
    refine wr_if_eq 29 (wg_da dt_X8_addCite 9 rfl) (by decide) h (fun h => ?_) (fun h => ?_)
    · exact wr_wk [true, true, true, false] (g_X8_addCite_29 l E  x0 x1 x2 s4 _ hx0  h)
    · refine wr_iload_n (wg_da dt_X8_addCite 10 rfl) rfl ?_
      refine wr_iload_n (wg_da dt_X8_addCite 11 rfl) rfl ?_
      refine wr_icmp_eq 29 (wg_da dt_X8_addCite 12 rfl) (by decide) h (fun h => ?_) (fun h => ?_)
      · exact wr_wk [true, true, true, false] (g_X8_addCite_29 l E  x0 x1 x2 s4 _ hx0  h)
      · refine wr_iconst (1 : Int32) (wg_da dt_X8_addCite 13 rfl) (by decide) ?_
        refine wr_goto 30 (wg_da dt_X8_addCite 14 rfl) (by decide) ?_
        exact wr_wk [true, true, true, false] (g_X8_addCite_30 l E  x0 x1 x2 (1 : Int32) s4 _ hx0  h)
theorem m_X8_addCite (l : Launch) (E : wg_E) (x0 : Nat) (x1 : Int32) (x2 : Int32) (hx0 : wg_t Sc x0 = 10) (σ : wg_M) (q : Int32 × wg_M) (h : f_X8_addCite x0 x1 x2 σ = some q) : wg_MG l E Sc yX8_addCite cX8_addCite 4 (some .int) rm_X8_addCite [.ref x0, .int x1, .int x2] σ (some q.1) q.2 :=
  wg_met [.ref x0, .int x1, .int x2] (plainFor_of_name (by decide)) (Nat.le_of_ble_eq_true rfl) (g_X8_addCite_e l E x0 x1 x2 σ q hx0 h)
abbrev rm_X8_addHard : Room := { frames := 1, cells := 0, slots := 0, locals := 22 }
def tb_X8_addHard : List (Nat × Instr × Nat) := [(0, .aload_n 0, 1), (1, .getfield 50, 3), (4, .bipush 7, 2), (6, .if_icmp .ge 23, 3), (9, .iload_n 1, 1), (10, .iconst 1, 1), (11, .bipush 24, 2), (13, .invokestatic 53, 3), (16, .ifCond .eq 13, 3), (19, .iload_n 2, 1), (20, .iconst 0, 1), (21, .bipush 99, 2), (23, .invokestatic 53, 3), (26, .ifCond .ne 5, 3), (29, .iconst (-1), 1), (30, .ireturn, 1), (31, .aload_n 0, 1), (32, .getfield 30, 3), (35, .aload_n 0, 1), (36, .getfield 50, 3), (39, .iload_n 1, 1), (40, .iastore, 1), (41, .aload_n 0, 1), (42, .getfield 33, 3), (45, .aload_n 0, 1), (46, .getfield 50, 3), (49, .iload_n 2, 1), (50, .iastore, 1), (51, .aload_n 0, 1), (52, .dup, 1), (53, .getfield 50, 3), (56, .iconst 1, 1), (57, .iadd, 1), (58, .putfield 50, 3), (61, .aload_n 0, 1), (62, .getfield 50, 3), (65, .ireturn, 1)]
theorem dt_X8_addHard : wg_dc cX8_addHard tb_X8_addHard := by unfold wg_dc; decide +kernel
def f_X8_addHard  (x0 : Nat) (x1 : Int32) (x2 : Int32) (σ : wg_M) : Option (Int32 × wg_M) := if (7 : Int32) ≤ (σ x0 10) then (some ((-1 : Int32), σ)) else (wg_bd (f_X11_within x1 (1 : Int32) (24 : Int32) σ) (fun v1 s2 => if v1 = 0 then (some ((-1 : Int32), s2)) else (wg_bd (f_X11_within x2 (0 : Int32) (99 : Int32) s2) (fun v3 s4 => if v3 = 0 then (some ((-1 : Int32), s4)) else (wg_sa (wg_n Sc (wg_r Sc x0 8)) s4 (wg_r Sc x0 8) (s4 x0 10) x1 (fun s5 => wg_sa (wg_n Sc (wg_r Sc x0 9)) s5 (wg_r Sc x0 9) (s5 x0 10) x2 (fun s6 => wg_st s6 x0 10 ((s6 x0 10) + (1 : Int32)) (fun s7 => some (s7 x0 10, s7)))))))))
set_option maxRecDepth 20000 in
theorem g_X8_addHard_e (l : Launch) (E : wg_E)  (x0 : Nat) (x1 : Int32) (x2 : Int32) (σ : wg_M) (z : Int32 × wg_M) (hx0 : wg_t Sc x0 = 10) (h : f_X8_addHard  x0 x1 x2 σ = some z) : wg_G l E Sc "WornWigs$Told" cX8_addHard 3 (some .int) rm_X8_addHard (some z.1) z.2 0 [some (.ref x0), some (.int x1), some (.int x2)] [] σ := by
  refine wr_aload_n (wg_da dt_X8_addHard 0 rfl) rfl ?_
  refine wr_getI wf_X8_50 (wg_da dt_X8_addHard 1 rfl) hx0 ?_
  refine wr_bipush (7 : Int32) (wg_da dt_X8_addHard 2 rfl) (by decide) ?_
  refine wr_icmp_ge 29 (wg_da dt_X8_addHard 3 rfl) (by decide) h (fun h => ?_) (fun h => ?_)
  · refine wr_iconst (-1 : Int32) (wg_da dt_X8_addHard 14 rfl) (by decide) ?_
    exact wr_iret (wg_da dt_X8_addHard 15 rfl) h
  · refine wr_iload_n (wg_da dt_X8_addHard 4 rfl) rfl ?_
    refine wr_iconst (1 : Int32) (wg_da dt_X8_addHard 5 rfl) (by decide) ?_
    refine wr_bipush (24 : Int32) (wg_da dt_X8_addHard 6 rfl) (by decide) ?_
    refine wr_callNi [.int x1, .int (1 : Int32), .int (24 : Int32)] [] (wg_da dt_X8_addHard 7 rfl) ⟨List.mem_of_getElem? (i := 18) rfl, wq_3_49⟩ wy_X11_within (fun q hq => m_X11_within l E x1 (1 : Int32) (24 : Int32)  _ q hq) rfl rfl (Nat.le_of_ble_eq_true rfl) ⟨rfl, rfl, by decide, by decide⟩ h (fun v1 s2 h => ?_)
    refine wr_if_eq 29 (wg_da dt_X8_addHard 8 rfl) (by decide) h (fun h => ?_) (fun h => ?_)
    · refine wr_iconst (-1 : Int32) (wg_da dt_X8_addHard 14 rfl) (by decide) ?_
      exact wr_iret (wg_da dt_X8_addHard 15 rfl) h
    · refine wr_iload_n (wg_da dt_X8_addHard 9 rfl) rfl ?_
      refine wr_iconst (0 : Int32) (wg_da dt_X8_addHard 10 rfl) (by decide) ?_
      refine wr_bipush (99 : Int32) (wg_da dt_X8_addHard 11 rfl) (by decide) ?_
      refine wr_callNi [.int x2, .int (0 : Int32), .int (99 : Int32)] [] (wg_da dt_X8_addHard 12 rfl) ⟨List.mem_of_getElem? (i := 18) rfl, wq_3_49⟩ wy_X11_within (fun q hq => m_X11_within l E x2 (0 : Int32) (99 : Int32)  _ q hq) rfl rfl (Nat.le_of_ble_eq_true rfl) ⟨rfl, rfl, by decide, by decide⟩ h (fun v3 s4 h => ?_)
      refine wr_if_ne 31 (wg_da dt_X8_addHard 13 rfl) (by decide) h (fun h => ?_) (fun h => ?_)
      · refine wr_iconst (-1 : Int32) (wg_da dt_X8_addHard 14 rfl) (by decide) ?_
        exact wr_iret (wg_da dt_X8_addHard 15 rfl) h
      · refine wr_aload_n (wg_da dt_X8_addHard 16 rfl) rfl ?_
        refine wr_getR wf_X8_30 (wg_da dt_X8_addHard 17 rfl) hx0 ?_
        refine wr_aload_n (wg_da dt_X8_addHard 18 rfl) rfl ?_
        refine wr_getI wf_X8_50 (wg_da dt_X8_addHard 19 rfl) hx0 ?_
        refine wr_iload_n (wg_da dt_X8_addHard 20 rfl) rfl ?_
        refine wr_iast (wg_da dt_X8_addHard 21 rfl) (wg_ty Sc_ok 8 8 0 hx0 rfl (by decide)).2 h (fun s5 h => ?_)
        refine wr_aload_n (wg_da dt_X8_addHard 22 rfl) rfl ?_
        refine wr_getR wf_X8_33 (wg_da dt_X8_addHard 23 rfl) hx0 ?_
        refine wr_aload_n (wg_da dt_X8_addHard 24 rfl) rfl ?_
        refine wr_getI wf_X8_50 (wg_da dt_X8_addHard 25 rfl) hx0 ?_
        refine wr_iload_n (wg_da dt_X8_addHard 26 rfl) rfl ?_
        refine wr_iast (wg_da dt_X8_addHard 27 rfl) (wg_ty Sc_ok 8 9 0 hx0 rfl (by decide)).2 h (fun s6 h => ?_)
        refine wr_aload_n (wg_da dt_X8_addHard 28 rfl) rfl ?_
        refine wr_dup (wg_da dt_X8_addHard 29 rfl) ?_
        refine wr_getI wf_X8_50 (wg_da dt_X8_addHard 30 rfl) hx0 ?_
        refine wr_iconst (1 : Int32) (wg_da dt_X8_addHard 31 rfl) (by decide) ?_
        refine wr_iadd (wg_da dt_X8_addHard 32 rfl) ?_
        refine wr_putI wfp_X8_50 (wg_da dt_X8_addHard 33 rfl) hx0 h (fun s7 h => ?_)
        refine wr_aload_n (wg_da dt_X8_addHard 34 rfl) rfl ?_
        refine wr_getI wf_X8_50 (wg_da dt_X8_addHard 35 rfl) hx0 ?_
        exact wr_iret (wg_da dt_X8_addHard 36 rfl) h
theorem m_X8_addHard (l : Launch) (E : wg_E) (x0 : Nat) (x1 : Int32) (x2 : Int32) (hx0 : wg_t Sc x0 = 10) (σ : wg_M) (q : Int32 × wg_M) (h : f_X8_addHard x0 x1 x2 σ = some q) : wg_MG l E Sc yX8_addHard cX8_addHard 3 (some .int) rm_X8_addHard [.ref x0, .int x1, .int x2] σ (some q.1) q.2 :=
  wg_met [.ref x0, .int x1, .int x2] (plainFor_of_name (by decide)) (Nat.le_of_ble_eq_true rfl) (g_X8_addHard_e l E x0 x1 x2 σ q hx0 h)
abbrev rm_X8_measureRows : Room := { frames := 1, cells := 0, slots := 0, locals := 23 }
def tb_X8_measureRows : List (Nat × Instr × Nat) := [(0, .aload_n 0, 1), (1, .getfield 36, 3), (4, .iconst 1, 1), (5, .invokestatic 61, 3), (8, .iconst 0, 1), (9, .istore_n 1, 1), (10, .iload_n 1, 1), (11, .bipush 14, 2), (13, .if_icmp .ge 84, 3), (16, .iconst 0, 1), (17, .istore_n 2, 1), (18, .iconst 0, 1), (19, .istore_n 3, 1), (20, .iload_n 3, 1), (21, .aload_n 0, 1), (22, .getfield 47, 3), (25, .if_icmp .ge 60, 3), (28, .aload_n 0, 1), (29, .getfield 36, 3), (32, .aload_n 0, 1), (33, .getfield 21, 3), (36, .iload_n 3, 1), (37, .iaload, 1), (38, .iaload, 1), (39, .aload_n 0, 1), (40, .getfield 36, 3), (43, .aload_n 0, 1), (44, .getfield 24, 3), (47, .iload_n 3, 1), (48, .iaload, 1), (49, .iaload, 1), (50, .if_icmp .gt 29, 3), (53, .aload_n 0, 1), (54, .getfield 36, 3), (57, .aload_n 0, 1), (58, .getfield 21, 3), (61, .iload_n 3, 1), (62, .iaload, 1), (63, .aload_n 0, 1), (64, .getfield 36, 3), (67, .aload_n 0, 1), (68, .getfield 24, 3), (71, .iload_n 3, 1), (72, .iaload, 1), (73, .iaload, 1), (74, .iconst 1, 1), (75, .iadd, 1), (76, .iastore, 1), (77, .iconst 1, 1), (78, .istore_n 2, 1), (79, .iinc 3 1, 3), (82, .goto (-62), 3), (85, .iload_n 2, 1), (86, .ifCond .ne 5, 3), (89, .iconst 1, 1), (90, .ireturn, 1), (91, .iinc 1 1, 3), (94, .goto (-84), 3), (97, .iconst 0, 1), (98, .ireturn, 1)]
theorem dt_X8_measureRows : wg_dc cX8_measureRows tb_X8_measureRows := by unfold wg_dc; decide +kernel
def f_X8_measureRows_79 (k20 : Nat → Int32 → Int32 → Int32 → wg_M → Option (Int32 × wg_M)) (x0 : Nat) (x1 : Int32) (x2 : Int32) (x3 : Int32) (σ : wg_M) : Option (Int32 × wg_M) := wg_let (x3 + (1 : Int32)) (fun v1 => k20 x0 x1 x2 v1 σ)
def f_X8_measureRows_20 (k10 : Nat → Int32 → wg_M → Option (Int32 × wg_M)) : Nat → Nat → Int32 → Int32 → Int32 → wg_M → Option (Int32 × wg_M)
  | 0, _, _, _, _, _ => none
  | n + 1, x0, x1, x2, x3, σ => if (σ x0 6) ≤ x3 then (if x2 = 0 then (some ((1 : Int32), σ)) else (wg_let (x1 + (1 : Int32)) (fun v1 => k10 x0 v1 σ))) else (wg_ga (wg_n Sc (wg_r Sc x0 4)) (σ (wg_r Sc x0 4)) x3 (fun v2 => wg_ga (wg_n Sc (wg_r Sc x0 11)) (σ (wg_r Sc x0 11)) v2 (fun v3 => wg_ga (wg_n Sc (wg_r Sc x0 5)) (σ (wg_r Sc x0 5)) x3 (fun v4 => wg_ga (wg_n Sc (wg_r Sc x0 11)) (σ (wg_r Sc x0 11)) v4 (fun v5 => if v5 < v3 then (f_X8_measureRows_79 (f_X8_measureRows_20 k10 n) x0 x1 x2 x3 σ) else (wg_ga (wg_n Sc (wg_r Sc x0 4)) (σ (wg_r Sc x0 4)) x3 (fun v6 => wg_ga (wg_n Sc (wg_r Sc x0 5)) (σ (wg_r Sc x0 5)) x3 (fun v7 => wg_ga (wg_n Sc (wg_r Sc x0 11)) (σ (wg_r Sc x0 11)) v7 (fun v8 => wg_sa (wg_n Sc (wg_r Sc x0 11)) σ (wg_r Sc x0 11) v6 (v8 + (1 : Int32)) (fun s9 => f_X8_measureRows_79 (f_X8_measureRows_20 k10 n) x0 x1 (1 : Int32) x3 s9))))))))))
def f_X8_measureRows_10  : Nat → Nat → Int32 → wg_M → Option (Int32 × wg_M)
  | 0, _, _, _ => none
  | n + 1, x0, x1, σ => if (14 : Int32) ≤ x1 then (some ((0 : Int32), σ)) else (f_X8_measureRows_20 (f_X8_measureRows_10  n) wg_N x0 x1 (0 : Int32) (0 : Int32) σ)
def f_X8_measureRows  (x0 : Nat) (σ : wg_M) : Option (Int32 × wg_M) := wg_bd (f_J7_fill_53178 (wg_r Sc x0 11) (1 : Int32) σ) (fun _ s1 => f_X8_measureRows_10  wg_N x0 (0 : Int32) s1)
set_option maxRecDepth 20000 in
theorem g_X8_measureRows_79 (l : Launch) (E : wg_E) (k20 : Nat → Int32 → Int32 → Int32 → wg_M → Option (Int32 × wg_M)) (x0 : Nat) (x1 : Int32) (x2 : Int32) (x3 : Int32) (σ : wg_M) (z : Int32 × wg_M) (hx0 : wg_t Sc x0 = 10) (hk20 : ∀ (x0 : Nat) (x1 : Int32) (x2 : Int32) (x3 : Int32) (σ : wg_M), wg_t Sc x0 = 10 → k20 x0 x1 x2 x3 σ = some z → wg_G l E Sc "WornWigs$Told" cX8_measureRows 4 (some .boolean) rm_X8_measureRows (some z.1) z.2 20 [some (.ref x0), some (.int x1), some (.int x2), some (.int x3)] [] σ) (h : f_X8_measureRows_79 k20 x0 x1 x2 x3 σ = some z) : wg_G l E Sc "WornWigs$Told" cX8_measureRows 4 (some .boolean) rm_X8_measureRows (some z.1) z.2 79 [some (.ref x0), some (.int x1), some (.int x2), some (.int x3)] [] σ := by
  refine wr_iinc (c0 := (1 : Int32)) (wg_da dt_X8_measureRows 50 rfl) rfl (by decide) (by decide) h (fun v1 h => ?_)
  refine wr_goto 20 (wg_da dt_X8_measureRows 51 rfl) (by decide) ?_
  exact wr_wk [true, true, true, true] (hk20 x0 x1 x2 v1 σ hx0 h)
set_option maxRecDepth 20000 in
theorem g_X8_measureRows_20 (l : Launch) (E : wg_E) (k10 : Nat → Int32 → wg_M → Option (Int32 × wg_M)) (z : Int32 × wg_M) (hk10 : ∀ (x0 : Nat) (x1 : Int32) (σ : wg_M), wg_t Sc x0 = 10 → k10 x0 x1 σ = some z → wg_G l E Sc "WornWigs$Told" cX8_measureRows 4 (some .boolean) rm_X8_measureRows (some z.1) z.2 10 [some (.ref x0), some (.int x1), none, none] [] σ) : ∀ (n : Nat) (x0 : Nat) (x1 : Int32) (x2 : Int32) (x3 : Int32) (σ : wg_M) (hx0 : wg_t Sc x0 = 10) (h : f_X8_measureRows_20 k10 n x0 x1 x2 x3 σ = some z), wg_G l E Sc "WornWigs$Told" cX8_measureRows 4 (some .boolean) rm_X8_measureRows (some z.1) z.2 20 [some (.ref x0), some (.int x1), some (.int x2), some (.int x3)] [] σ := by
  intro n
  induction n with
  | zero => intro x0 x1 x2 x3 σ hx0 h; cases h
  | succ n ih =>
    intro x0 x1 x2 x3 σ hx0 h
    refine wr_iload_n (wg_da dt_X8_measureRows 13 rfl) rfl ?_
    refine wr_aload_n (wg_da dt_X8_measureRows 14 rfl) rfl ?_
    refine wr_getI wf_X8_47 (wg_da dt_X8_measureRows 15 rfl) hx0 ?_
    refine wr_icmp_ge 85 (wg_da dt_X8_measureRows 16 rfl) (by decide) h (fun h => ?_) (fun h => ?_)
    · refine wr_iload_n (wg_da dt_X8_measureRows 52 rfl) rfl ?_
      refine wr_if_ne 91 (wg_da dt_X8_measureRows 53 rfl) (by decide) h (fun h => ?_) (fun h => ?_)
      · refine wr_iconst (1 : Int32) (wg_da dt_X8_measureRows 54 rfl) (by decide) ?_
        exact wr_zret1 (wg_da dt_X8_measureRows 55 rfl) h
      · refine wr_iinc (c0 := (1 : Int32)) (wg_da dt_X8_measureRows 56 rfl) rfl (by decide) (by decide) h (fun v1 h => ?_)
        refine wr_goto 10 (wg_da dt_X8_measureRows 57 rfl) (by decide) ?_
        exact wr_wk [true, true, false, false] (hk10 x0 v1 σ hx0 h)
    · refine wr_aload_n (wg_da dt_X8_measureRows 17 rfl) rfl ?_
      refine wr_getR wf_X8_36 (wg_da dt_X8_measureRows 18 rfl) hx0 ?_
      refine wr_aload_n (wg_da dt_X8_measureRows 19 rfl) rfl ?_
      refine wr_getR wf_X8_21 (wg_da dt_X8_measureRows 20 rfl) hx0 ?_
      refine wr_iload_n (wg_da dt_X8_measureRows 21 rfl) rfl ?_
      refine wr_iald (wg_da dt_X8_measureRows 22 rfl) (wg_ty Sc_ok 8 4 0 hx0 rfl (by decide)).2 h (fun v2 h => ?_)
      refine wr_iald (wg_da dt_X8_measureRows 23 rfl) (wg_ty Sc_ok 8 11 0 hx0 rfl (by decide)).2 h (fun v3 h => ?_)
      refine wr_aload_n (wg_da dt_X8_measureRows 24 rfl) rfl ?_
      refine wr_getR wf_X8_36 (wg_da dt_X8_measureRows 25 rfl) hx0 ?_
      refine wr_aload_n (wg_da dt_X8_measureRows 26 rfl) rfl ?_
      refine wr_getR wf_X8_24 (wg_da dt_X8_measureRows 27 rfl) hx0 ?_
      refine wr_iload_n (wg_da dt_X8_measureRows 28 rfl) rfl ?_
      refine wr_iald (wg_da dt_X8_measureRows 29 rfl) (wg_ty Sc_ok 8 5 0 hx0 rfl (by decide)).2 h (fun v4 h => ?_)
      refine wr_iald (wg_da dt_X8_measureRows 30 rfl) (wg_ty Sc_ok 8 11 0 hx0 rfl (by decide)).2 h (fun v5 h => ?_)
      refine wr_icmp_gt 79 (wg_da dt_X8_measureRows 31 rfl) (by decide) h (fun h => ?_) (fun h => ?_)
      · exact wr_wk [true, true, true, true] (g_X8_measureRows_79 l E (f_X8_measureRows_20 k10 n) x0 x1 x2 x3 σ _ hx0 (fun x0 x1 x2 x3 σ hx0 h => ih x0 x1 x2 x3 σ hx0 h) h)
      · refine wr_aload_n (wg_da dt_X8_measureRows 32 rfl) rfl ?_
        refine wr_getR wf_X8_36 (wg_da dt_X8_measureRows 33 rfl) hx0 ?_
        refine wr_aload_n (wg_da dt_X8_measureRows 34 rfl) rfl ?_
        refine wr_getR wf_X8_21 (wg_da dt_X8_measureRows 35 rfl) hx0 ?_
        refine wr_iload_n (wg_da dt_X8_measureRows 36 rfl) rfl ?_
        refine wr_iald (wg_da dt_X8_measureRows 37 rfl) (wg_ty Sc_ok 8 4 0 hx0 rfl (by decide)).2 h (fun v6 h => ?_)
        refine wr_aload_n (wg_da dt_X8_measureRows 38 rfl) rfl ?_
        refine wr_getR wf_X8_36 (wg_da dt_X8_measureRows 39 rfl) hx0 ?_
        refine wr_aload_n (wg_da dt_X8_measureRows 40 rfl) rfl ?_
        refine wr_getR wf_X8_24 (wg_da dt_X8_measureRows 41 rfl) hx0 ?_
        refine wr_iload_n (wg_da dt_X8_measureRows 42 rfl) rfl ?_
        refine wr_iald (wg_da dt_X8_measureRows 43 rfl) (wg_ty Sc_ok 8 5 0 hx0 rfl (by decide)).2 h (fun v7 h => ?_)
        refine wr_iald (wg_da dt_X8_measureRows 44 rfl) (wg_ty Sc_ok 8 11 0 hx0 rfl (by decide)).2 h (fun v8 h => ?_)
        refine wr_iconst (1 : Int32) (wg_da dt_X8_measureRows 45 rfl) (by decide) ?_
        refine wr_iadd (wg_da dt_X8_measureRows 46 rfl) ?_
        refine wr_iast (wg_da dt_X8_measureRows 47 rfl) (wg_ty Sc_ok 8 11 0 hx0 rfl (by decide)).2 h (fun s9 h => ?_)
        refine wr_iconst (1 : Int32) (wg_da dt_X8_measureRows 48 rfl) (by decide) ?_
        refine wr_istore_n (wg_da dt_X8_measureRows 49 rfl) (by decide) ?_
        exact wr_wk [true, true, true, true] (g_X8_measureRows_79 l E (f_X8_measureRows_20 k10 n) x0 x1 (1 : Int32) x3 s9 _ hx0 (fun x0 x1 x2 x3 σ hx0 h => ih x0 x1 x2 x3 σ hx0 h) h)
set_option maxRecDepth 20000 in
theorem g_X8_measureRows_10 (l : Launch) (E : wg_E)  (z : Int32 × wg_M) : ∀ (n : Nat) (x0 : Nat) (x1 : Int32) (σ : wg_M) (hx0 : wg_t Sc x0 = 10) (h : f_X8_measureRows_10  n x0 x1 σ = some z), wg_G l E Sc "WornWigs$Told" cX8_measureRows 4 (some .boolean) rm_X8_measureRows (some z.1) z.2 10 [some (.ref x0), some (.int x1), none, none] [] σ := by
  intro n
  induction n with
  | zero => intro x0 x1 σ hx0 h; cases h
  | succ n ih =>
    intro x0 x1 σ hx0 h
    refine wr_iload_n (wg_da dt_X8_measureRows 6 rfl) rfl ?_
    refine wr_bipush (14 : Int32) (wg_da dt_X8_measureRows 7 rfl) (by decide) ?_
    refine wr_icmp_ge 97 (wg_da dt_X8_measureRows 8 rfl) (by decide) h (fun h => ?_) (fun h => ?_)
    · refine wr_iconst (0 : Int32) (wg_da dt_X8_measureRows 58 rfl) (by decide) ?_
      exact wr_zret0 (wg_da dt_X8_measureRows 59 rfl) h
    · refine wr_iconst (0 : Int32) (wg_da dt_X8_measureRows 9 rfl) (by decide) ?_
      refine wr_istore_n (wg_da dt_X8_measureRows 10 rfl) (by decide) ?_
      refine wr_iconst (0 : Int32) (wg_da dt_X8_measureRows 11 rfl) (by decide) ?_
      refine wr_istore_n (wg_da dt_X8_measureRows 12 rfl) (by decide) ?_
      exact wr_wk [true, true, true, true] (g_X8_measureRows_20 l E (f_X8_measureRows_10  n) _ (fun x0 x1 σ hx0 h => ih x0 x1 σ hx0 h) wg_N x0 x1 (0 : Int32) (0 : Int32) σ hx0 h)
set_option maxRecDepth 20000 in
theorem g_X8_measureRows_e (l : Launch) (E : wg_E)  (x0 : Nat) (σ : wg_M) (z : Int32 × wg_M) (hx0 : wg_t Sc x0 = 10) (h : f_X8_measureRows  x0 σ = some z) : wg_G l E Sc "WornWigs$Told" cX8_measureRows 4 (some .boolean) rm_X8_measureRows (some z.1) z.2 0 [some (.ref x0), none, none, none] [] σ := by
  refine wr_aload_n (wg_da dt_X8_measureRows 0 rfl) rfl ?_
  refine wr_getR wf_X8_36 (wg_da dt_X8_measureRows 1 rfl) hx0 ?_
  refine wr_iconst (1 : Int32) (wg_da dt_X8_measureRows 2 rfl) (by decide) ?_
  refine wr_callSv [.ref (wg_r Sc x0 11), .int (1 : Int32)] [] (wg_da dt_X8_measureRows 3 rfl) ⟨wq_6_22, wq_3_174⟩ wy_J7_fill_53178 (fun q hq => m_J7_fill_53178 l E (wg_r Sc x0 11) (1 : Int32) (wg_ty Sc_ok 8 11 0 hx0 rfl (by decide)).2 _ q hq) rfl rfl (Nat.le_of_ble_eq_true rfl) ⟨rfl, rfl, by decide, by decide⟩ h (fun _ s1 h => ?_)
  refine wr_iconst (0 : Int32) (wg_da dt_X8_measureRows 4 rfl) (by decide) ?_
  refine wr_istore_n (wg_da dt_X8_measureRows 5 rfl) (by decide) ?_
  exact wr_wk [true, true, false, false] (g_X8_measureRows_10 l E  _  wg_N x0 (0 : Int32) s1 hx0 h)
theorem m_X8_measureRows (l : Launch) (E : wg_E) (x0 : Nat) (hx0 : wg_t Sc x0 = 10) (σ : wg_M) (q : Int32 × wg_M) (h : f_X8_measureRows x0 σ = some q) : wg_MG l E Sc yX8_measureRows cX8_measureRows 4 (some .boolean) rm_X8_measureRows [.ref x0] σ (some q.1) q.2 :=
  wg_met [.ref x0] (plainFor_of_name (by decide)) (Nat.le_of_ble_eq_true rfl) (g_X8_measureRows_e l E x0 σ q hx0 h)
abbrev rm_X8_longestRow : Room := { frames := 2, cells := 0, slots := 0, locals := 46 }
def tb_X8_longestRow : List (Nat × Instr × Nat) := [(0, .aload_n 0, 1), (1, .invokevirtual 57, 3), (4, .ifCond .ne 5, 3), (7, .iconst (-1), 1), (8, .ireturn, 1), (9, .aload_n 0, 1), (10, .getfield 47, 3), (13, .ifCond .ne 13, 3), (16, .iload_n 1, 1), (17, .ifCond .eq 7, 3), (20, .iconst (-1), 1), (21, .goto 4, 3), (24, .iconst 0, 1), (25, .ireturn, 1), (26, .iconst 0, 1), (27, .istore_n 2, 1), (28, .iconst 1, 1), (29, .istore_n 3, 1), (30, .iload_n 3, 1), (31, .bipush 14, 2), (33, .if_icmp .ge 26, 3), (36, .aload_n 0, 1), (37, .getfield 36, 3), (40, .iload_n 3, 1), (41, .iaload, 1), (42, .aload_n 0, 1), (43, .getfield 36, 3), (46, .iload_n 2, 1), (47, .iaload, 1), (48, .if_icmp .le 5, 3), (51, .iload_n 3, 1), (52, .istore_n 2, 1), (53, .iinc 3 1, 3), (56, .goto (-26), 3), (59, .iload_n 1, 1), (60, .ifCond .eq 7, 3), (63, .iload_n 2, 1), (64, .goto 9, 3), (67, .aload_n 0, 1), (68, .getfield 36, 3), (71, .iload_n 2, 1), (72, .iaload, 1), (73, .ireturn, 1)]
theorem dt_X8_longestRow : wg_dc cX8_longestRow tb_X8_longestRow := by unfold wg_dc; decide +kernel
def f_X8_longestRow_53 (k30 : Nat → Int32 → Int32 → Int32 → wg_M → Option (Int32 × wg_M)) (x0 : Nat) (x1 : Int32) (x2 : Int32) (x3 : Int32) (σ : wg_M) : Option (Int32 × wg_M) := wg_let (x3 + (1 : Int32)) (fun v1 => k30 x0 x1 x2 v1 σ)
def f_X8_longestRow_30  : Nat → Nat → Int32 → Int32 → Int32 → wg_M → Option (Int32 × wg_M)
  | 0, _, _, _, _, _ => none
  | n + 1, x0, x1, x2, x3, σ => if (14 : Int32) ≤ x3 then (if x1 = 0 then (wg_ga (wg_n Sc (wg_r Sc x0 11)) (σ (wg_r Sc x0 11)) x2 (fun v1 => some (v1, σ))) else (some (x2, σ))) else (wg_ga (wg_n Sc (wg_r Sc x0 11)) (σ (wg_r Sc x0 11)) x3 (fun v2 => wg_ga (wg_n Sc (wg_r Sc x0 11)) (σ (wg_r Sc x0 11)) x2 (fun v3 => if v2 ≤ v3 then (f_X8_longestRow_53 (f_X8_longestRow_30  n) x0 x1 x2 x3 σ) else (f_X8_longestRow_53 (f_X8_longestRow_30  n) x0 x1 x3 x3 σ))))
def f_X8_longestRow  (x0 : Nat) (x1 : Int32) (σ : wg_M) : Option (Int32 × wg_M) := wg_bd (f_X8_measureRows x0 σ) (fun v1 s2 => if v1 = 0 then (some ((-1 : Int32), s2)) else (if (s2 x0 6) = 0 then (if x1 = 0 then (some ((0 : Int32), s2)) else (some ((-1 : Int32), s2))) else (f_X8_longestRow_30  wg_N x0 x1 (0 : Int32) (1 : Int32) s2)))
set_option maxRecDepth 20000 in
theorem g_X8_longestRow_53 (l : Launch) (E : wg_E) (k30 : Nat → Int32 → Int32 → Int32 → wg_M → Option (Int32 × wg_M)) (x0 : Nat) (x1 : Int32) (x2 : Int32) (x3 : Int32) (σ : wg_M) (z : Int32 × wg_M) (hx0 : wg_t Sc x0 = 10) (hk30 : ∀ (x0 : Nat) (x1 : Int32) (x2 : Int32) (x3 : Int32) (σ : wg_M), wg_t Sc x0 = 10 → k30 x0 x1 x2 x3 σ = some z → wg_G l E Sc "WornWigs$Told" cX8_longestRow 4 (some .int) rm_X8_longestRow (some z.1) z.2 30 [some (.ref x0), some (.int x1), some (.int x2), some (.int x3)] [] σ) (h : f_X8_longestRow_53 k30 x0 x1 x2 x3 σ = some z) : wg_G l E Sc "WornWigs$Told" cX8_longestRow 4 (some .int) rm_X8_longestRow (some z.1) z.2 53 [some (.ref x0), some (.int x1), some (.int x2), some (.int x3)] [] σ := by
  refine wr_iinc (c0 := (1 : Int32)) (wg_da dt_X8_longestRow 32 rfl) rfl (by decide) (by decide) h (fun v1 h => ?_)
  refine wr_goto 30 (wg_da dt_X8_longestRow 33 rfl) (by decide) ?_
  exact wr_wk [true, true, true, true] (hk30 x0 x1 x2 v1 σ hx0 h)
set_option maxRecDepth 20000 in
theorem g_X8_longestRow_30 (l : Launch) (E : wg_E)  (z : Int32 × wg_M) : ∀ (n : Nat) (x0 : Nat) (x1 : Int32) (x2 : Int32) (x3 : Int32) (σ : wg_M) (hx0 : wg_t Sc x0 = 10) (h : f_X8_longestRow_30  n x0 x1 x2 x3 σ = some z), wg_G l E Sc "WornWigs$Told" cX8_longestRow 4 (some .int) rm_X8_longestRow (some z.1) z.2 30 [some (.ref x0), some (.int x1), some (.int x2), some (.int x3)] [] σ := by
  intro n
  induction n with
  | zero => intro x0 x1 x2 x3 σ hx0 h; cases h
  | succ n ih =>
    intro x0 x1 x2 x3 σ hx0 h
    refine wr_iload_n (wg_da dt_X8_longestRow 18 rfl) rfl ?_
    refine wr_bipush (14 : Int32) (wg_da dt_X8_longestRow 19 rfl) (by decide) ?_
    refine wr_icmp_ge 59 (wg_da dt_X8_longestRow 20 rfl) (by decide) h (fun h => ?_) (fun h => ?_)
    · refine wr_iload_n (wg_da dt_X8_longestRow 34 rfl) rfl ?_
      refine wr_if_eq 67 (wg_da dt_X8_longestRow 35 rfl) (by decide) h (fun h => ?_) (fun h => ?_)
      · refine wr_aload_n (wg_da dt_X8_longestRow 38 rfl) rfl ?_
        refine wr_getR wf_X8_36 (wg_da dt_X8_longestRow 39 rfl) hx0 ?_
        refine wr_iload_n (wg_da dt_X8_longestRow 40 rfl) rfl ?_
        refine wr_iald (wg_da dt_X8_longestRow 41 rfl) (wg_ty Sc_ok 8 11 0 hx0 rfl (by decide)).2 h (fun v1 h => ?_)
        exact wr_iret (wg_da dt_X8_longestRow 42 rfl) h
      · refine wr_iload_n (wg_da dt_X8_longestRow 36 rfl) rfl ?_
        refine wr_goto 73 (wg_da dt_X8_longestRow 37 rfl) (by decide) ?_
        exact wr_iret (wg_da dt_X8_longestRow 42 rfl) h
    · refine wr_aload_n (wg_da dt_X8_longestRow 21 rfl) rfl ?_
      refine wr_getR wf_X8_36 (wg_da dt_X8_longestRow 22 rfl) hx0 ?_
      refine wr_iload_n (wg_da dt_X8_longestRow 23 rfl) rfl ?_
      refine wr_iald (wg_da dt_X8_longestRow 24 rfl) (wg_ty Sc_ok 8 11 0 hx0 rfl (by decide)).2 h (fun v2 h => ?_)
      refine wr_aload_n (wg_da dt_X8_longestRow 25 rfl) rfl ?_
      refine wr_getR wf_X8_36 (wg_da dt_X8_longestRow 26 rfl) hx0 ?_
      refine wr_iload_n (wg_da dt_X8_longestRow 27 rfl) rfl ?_
      refine wr_iald (wg_da dt_X8_longestRow 28 rfl) (wg_ty Sc_ok 8 11 0 hx0 rfl (by decide)).2 h (fun v3 h => ?_)
      refine wr_icmp_le 53 (wg_da dt_X8_longestRow 29 rfl) (by decide) h (fun h => ?_) (fun h => ?_)
      · exact wr_wk [true, true, true, true] (g_X8_longestRow_53 l E (f_X8_longestRow_30  n) x0 x1 x2 x3 σ _ hx0 (fun x0 x1 x2 x3 σ hx0 h => ih x0 x1 x2 x3 σ hx0 h) h)
      · refine wr_iload_n (wg_da dt_X8_longestRow 30 rfl) rfl ?_
        refine wr_istore_n (wg_da dt_X8_longestRow 31 rfl) (by decide) ?_
        exact wr_wk [true, true, true, true] (g_X8_longestRow_53 l E (f_X8_longestRow_30  n) x0 x1 x3 x3 σ _ hx0 (fun x0 x1 x2 x3 σ hx0 h => ih x0 x1 x2 x3 σ hx0 h) h)
set_option maxRecDepth 20000 in
theorem g_X8_longestRow_e (l : Launch) (E : wg_E)  (x0 : Nat) (x1 : Int32) (σ : wg_M) (z : Int32 × wg_M) (hx0 : wg_t Sc x0 = 10) (h : f_X8_longestRow  x0 x1 σ = some z) : wg_G l E Sc "WornWigs$Told" cX8_longestRow 4 (some .int) rm_X8_longestRow (some z.1) z.2 0 [some (.ref x0), some (.int x1), none, none] [] σ := by
  refine wr_aload_n (wg_da dt_X8_longestRow 0 rfl) rfl ?_
  refine wr_callVi [] [] (wg_da dt_X8_longestRow 1 rfl) ⟨wq_6_18, wq_6_20, wq_p3_15⟩ hx0 ⟨rfl, by decide⟩ wy_X8_measureRows (fun q hq => m_X8_measureRows l E x0 hx0 _ q hq) rfl rfl (Nat.le_of_ble_eq_true rfl) ⟨rfl, rfl, by decide, by decide⟩ h (fun v1 s2 h => ?_)
  refine wr_if_ne 9 (wg_da dt_X8_longestRow 2 rfl) (by decide) h (fun h => ?_) (fun h => ?_)
  · refine wr_iconst (-1 : Int32) (wg_da dt_X8_longestRow 3 rfl) (by decide) ?_
    exact wr_iret (wg_da dt_X8_longestRow 4 rfl) h
  · refine wr_aload_n (wg_da dt_X8_longestRow 5 rfl) rfl ?_
    refine wr_getI wf_X8_47 (wg_da dt_X8_longestRow 6 rfl) hx0 ?_
    refine wr_if_ne 26 (wg_da dt_X8_longestRow 7 rfl) (by decide) h (fun h => ?_) (fun h => ?_)
    · refine wr_iload_n (wg_da dt_X8_longestRow 8 rfl) rfl ?_
      refine wr_if_eq 24 (wg_da dt_X8_longestRow 9 rfl) (by decide) h (fun h => ?_) (fun h => ?_)
      · refine wr_iconst (0 : Int32) (wg_da dt_X8_longestRow 12 rfl) (by decide) ?_
        exact wr_iret (wg_da dt_X8_longestRow 13 rfl) h
      · refine wr_iconst (-1 : Int32) (wg_da dt_X8_longestRow 10 rfl) (by decide) ?_
        refine wr_goto 25 (wg_da dt_X8_longestRow 11 rfl) (by decide) ?_
        exact wr_iret (wg_da dt_X8_longestRow 13 rfl) h
    · refine wr_iconst (0 : Int32) (wg_da dt_X8_longestRow 14 rfl) (by decide) ?_
      refine wr_istore_n (wg_da dt_X8_longestRow 15 rfl) (by decide) ?_
      refine wr_iconst (1 : Int32) (wg_da dt_X8_longestRow 16 rfl) (by decide) ?_
      refine wr_istore_n (wg_da dt_X8_longestRow 17 rfl) (by decide) ?_
      exact wr_wk [true, true, true, true] (g_X8_longestRow_30 l E  _  wg_N x0 x1 (0 : Int32) (1 : Int32) s2 hx0 h)
theorem m_X8_longestRow (l : Launch) (E : wg_E) (x0 : Nat) (x1 : Int32) (hx0 : wg_t Sc x0 = 10) (σ : wg_M) (q : Int32 × wg_M) (h : f_X8_longestRow x0 x1 σ = some q) : wg_MG l E Sc yX8_longestRow cX8_longestRow 4 (some .int) rm_X8_longestRow [.ref x0, .int x1] σ (some q.1) q.2 :=
  wg_met [.ref x0, .int x1] (plainFor_of_name (by decide)) (Nat.le_of_ble_eq_true rfl) (g_X8_longestRow_e l E x0 x1 σ q hx0 h)
abbrev rm_X8_worthOf : Room := { frames := 0, cells := 0, slots := 0, locals := 0 }
def tb_X8_worthOf : List (Nat × Instr × Nat) := [(0, .iconst 0, 1), (1, .istore 4, 2), (3, .iload_n 2, 1), (4, .istore 5, 2), (6, .iload 5, 2), (8, .iload_n 3, 1), (9, .if_icmp .ge 26, 3), (12, .iload 4, 2), (14, .aload_n 0, 1), (15, .getfield 27, 3), (18, .iload_n 1, 1), (19, .bipush 10, 2), (21, .imul, 1), (22, .iload 5, 2), (24, .iadd, 1), (25, .iaload, 1), (26, .iadd, 1), (27, .istore 4, 2), (29, .iinc 5 1, 3), (32, .goto (-26), 3), (35, .iload 4, 2), (37, .ireturn, 1)]
theorem dt_X8_worthOf : wg_dc cX8_worthOf tb_X8_worthOf := by unfold wg_dc; decide +kernel
def f_X8_worthOf_6  : Nat → Nat → Int32 → Int32 → Int32 → Int32 → wg_M → Option (Int32 × wg_M)
  | 0, _, _, _, _, _, _ => none
  | n + 1, x0, x1, x3, x4, x5, σ => if x3 ≤ x5 then (some (x4, σ)) else (wg_ga (wg_n Sc (wg_r Sc x0 7)) (σ (wg_r Sc x0 7)) ((x1 * (10 : Int32)) + x5) (fun v1 => wg_let (x4 + v1) (fun v2 => wg_let (x5 + (1 : Int32)) (fun v3 => f_X8_worthOf_6  n x0 x1 x3 v2 v3 σ))))
def f_X8_worthOf  (x0 : Nat) (x1 : Int32) (x2 : Int32) (x3 : Int32) (σ : wg_M) : Option (Int32 × wg_M) := f_X8_worthOf_6  wg_N x0 x1 x3 (0 : Int32) x2 σ
set_option maxRecDepth 20000 in
theorem g_X8_worthOf_6 (l : Launch) (E : wg_E)  (z : Int32 × wg_M) : ∀ (n : Nat) (x0 : Nat) (x1 : Int32) (x3 : Int32) (x4 : Int32) (x5 : Int32) (σ : wg_M) (hx0 : wg_t Sc x0 = 10) (h : f_X8_worthOf_6  n x0 x1 x3 x4 x5 σ = some z), wg_G l E Sc "WornWigs$Told" cX8_worthOf 6 (some .int) rm_X8_worthOf (some z.1) z.2 6 [some (.ref x0), some (.int x1), none, some (.int x3), some (.int x4), some (.int x5)] [] σ := by
  intro n
  induction n with
  | zero => intro x0 x1 x3 x4 x5 σ hx0 h; cases h
  | succ n ih =>
    intro x0 x1 x3 x4 x5 σ hx0 h
    refine wr_iload (wg_da dt_X8_worthOf 4 rfl) rfl ?_
    refine wr_iload_n (wg_da dt_X8_worthOf 5 rfl) rfl ?_
    refine wr_icmp_ge 35 (wg_da dt_X8_worthOf 6 rfl) (by decide) h (fun h => ?_) (fun h => ?_)
    · refine wr_iload (wg_da dt_X8_worthOf 20 rfl) rfl ?_
      exact wr_iret (wg_da dt_X8_worthOf 21 rfl) h
    · refine wr_iload (wg_da dt_X8_worthOf 7 rfl) rfl ?_
      refine wr_aload_n (wg_da dt_X8_worthOf 8 rfl) rfl ?_
      refine wr_getR wf_X8_27 (wg_da dt_X8_worthOf 9 rfl) hx0 ?_
      refine wr_iload_n (wg_da dt_X8_worthOf 10 rfl) rfl ?_
      refine wr_bipush (10 : Int32) (wg_da dt_X8_worthOf 11 rfl) (by decide) ?_
      refine wr_imul (wg_da dt_X8_worthOf 12 rfl) ?_
      refine wr_iload (wg_da dt_X8_worthOf 13 rfl) rfl ?_
      refine wr_iadd (wg_da dt_X8_worthOf 14 rfl) ?_
      refine wr_iald (wg_da dt_X8_worthOf 15 rfl) (wg_ty Sc_ok 8 7 0 hx0 rfl (by decide)).2 h (fun v1 h => ?_)
      refine wr_iadd (wg_da dt_X8_worthOf 16 rfl) ?_
      refine wr_let h (fun v2 h => ?_)
      refine wr_istore (wg_da dt_X8_worthOf 17 rfl) (by decide) ?_
      refine wr_iinc (c0 := (1 : Int32)) (wg_da dt_X8_worthOf 18 rfl) rfl (by decide) (by decide) h (fun v3 h => ?_)
      refine wr_goto 6 (wg_da dt_X8_worthOf 19 rfl) (by decide) ?_
      exact wr_wk [true, true, false, true, true, true] (ih x0 x1 x3 v2 v3 σ hx0 h)
set_option maxRecDepth 20000 in
theorem g_X8_worthOf_e (l : Launch) (E : wg_E)  (x0 : Nat) (x1 : Int32) (x2 : Int32) (x3 : Int32) (σ : wg_M) (z : Int32 × wg_M) (hx0 : wg_t Sc x0 = 10) (h : f_X8_worthOf  x0 x1 x2 x3 σ = some z) : wg_G l E Sc "WornWigs$Told" cX8_worthOf 6 (some .int) rm_X8_worthOf (some z.1) z.2 0 [some (.ref x0), some (.int x1), some (.int x2), some (.int x3), none, none] [] σ := by
  refine wr_iconst (0 : Int32) (wg_da dt_X8_worthOf 0 rfl) (by decide) ?_
  refine wr_istore (wg_da dt_X8_worthOf 1 rfl) (by decide) ?_
  refine wr_iload_n (wg_da dt_X8_worthOf 2 rfl) rfl ?_
  refine wr_istore (wg_da dt_X8_worthOf 3 rfl) (by decide) ?_
  exact wr_wk [true, true, false, true, true, true] (g_X8_worthOf_6 l E  _  wg_N x0 x1 x3 (0 : Int32) x2 σ hx0 h)
theorem m_X8_worthOf (l : Launch) (E : wg_E) (x0 : Nat) (x1 : Int32) (x2 : Int32) (x3 : Int32) (hx0 : wg_t Sc x0 = 10) (σ : wg_M) (q : Int32 × wg_M) (h : f_X8_worthOf x0 x1 x2 x3 σ = some q) : wg_MG l E Sc yX8_worthOf cX8_worthOf 6 (some .int) rm_X8_worthOf [.ref x0, .int x1, .int x2, .int x3] σ (some q.1) q.2 :=
  wg_met [.ref x0, .int x1, .int x2, .int x3] (plainFor_of_name (by decide)) (Nat.le_of_ble_eq_true rfl) (g_X8_worthOf_e l E x0 x1 x2 x3 σ q hx0 h)
abbrev rm_X8_cutPlace : Room := { frames := 1, cells := 0, slots := 0, locals := 25 }
def tb_X8_cutPlace : List (Nat × Instr × Nat) := [(0, .iconst 1, 1), (1, .istore_n 1, 1), (2, .iconst (-1), 1), (3, .istore_n 2, 1), (4, .iconst 1, 1), (5, .istore_n 3, 1), (6, .iload_n 3, 1), (7, .bipush 10, 2), (9, .if_icmp .ge 40, 3), (12, .aload_n 0, 1), (13, .iconst 0, 1), (14, .iconst 0, 1), (15, .iload_n 3, 1), (16, .invokevirtual 67, 3), (19, .aload_n 0, 1), (20, .iconst 0, 1), (21, .iload_n 3, 1), (22, .bipush 10, 2), (24, .invokevirtual 67, 3), (27, .invokestatic 71, 3), (30, .istore 4, 2), (32, .iload 4, 2), (34, .iload_n 2, 1), (35, .if_icmp .le 8, 3), (38, .iload_n 3, 1), (39, .istore_n 1, 1), (40, .iload 4, 2), (42, .istore_n 2, 1), (43, .iinc 3 1, 3), (46, .goto (-40), 3), (49, .iload_n 1, 1), (50, .ireturn, 1)]
theorem dt_X8_cutPlace : wg_dc cX8_cutPlace tb_X8_cutPlace := by unfold wg_dc; decide +kernel
def f_X8_cutPlace_43 (k6 : Nat → Int32 → Int32 → Int32 → wg_M → Option (Int32 × wg_M)) (x0 : Nat) (x1 : Int32) (x2 : Int32) (x3 : Int32) (σ : wg_M) : Option (Int32 × wg_M) := wg_let (x3 + (1 : Int32)) (fun v1 => k6 x0 x1 x2 v1 σ)
def f_X8_cutPlace_6  : Nat → Nat → Int32 → Int32 → Int32 → wg_M → Option (Int32 × wg_M)
  | 0, _, _, _, _, _ => none
  | n + 1, x0, x1, x2, x3, σ => if (10 : Int32) ≤ x3 then (some (x1, σ)) else (wg_bd (f_X8_worthOf x0 (0 : Int32) (0 : Int32) x3 σ) (fun v1 s2 => wg_bd (f_X8_worthOf x0 (0 : Int32) x3 (10 : Int32) s2) (fun v3 s4 => wg_bd (f_J9_min_7cf53 v1 v3 s4) (fun v5 s6 => if v5 ≤ x2 then (f_X8_cutPlace_43 (f_X8_cutPlace_6  n) x0 x1 x2 x3 s6) else (f_X8_cutPlace_43 (f_X8_cutPlace_6  n) x0 x3 v5 x3 s6)))))
def f_X8_cutPlace  (x0 : Nat) (σ : wg_M) : Option (Int32 × wg_M) := f_X8_cutPlace_6  wg_N x0 (1 : Int32) (-1 : Int32) (1 : Int32) σ
set_option maxRecDepth 20000 in
theorem g_X8_cutPlace_43 (l : Launch) (E : wg_E) (k6 : Nat → Int32 → Int32 → Int32 → wg_M → Option (Int32 × wg_M)) (x0 : Nat) (x1 : Int32) (x2 : Int32) (x3 : Int32) (σ : wg_M) (z : Int32 × wg_M) (hx0 : wg_t Sc x0 = 10) (hk6 : ∀ (x0 : Nat) (x1 : Int32) (x2 : Int32) (x3 : Int32) (σ : wg_M), wg_t Sc x0 = 10 → k6 x0 x1 x2 x3 σ = some z → wg_G l E Sc "WornWigs$Told" cX8_cutPlace 5 (some .int) rm_X8_cutPlace (some z.1) z.2 6 [some (.ref x0), some (.int x1), some (.int x2), some (.int x3), none] [] σ) (h : f_X8_cutPlace_43 k6 x0 x1 x2 x3 σ = some z) : wg_G l E Sc "WornWigs$Told" cX8_cutPlace 5 (some .int) rm_X8_cutPlace (some z.1) z.2 43 [some (.ref x0), some (.int x1), some (.int x2), some (.int x3), none] [] σ := by
  refine wr_iinc (c0 := (1 : Int32)) (wg_da dt_X8_cutPlace 28 rfl) rfl (by decide) (by decide) h (fun v1 h => ?_)
  refine wr_goto 6 (wg_da dt_X8_cutPlace 29 rfl) (by decide) ?_
  exact wr_wk [true, true, true, true, false] (hk6 x0 x1 x2 v1 σ hx0 h)
set_option maxRecDepth 20000 in
theorem g_X8_cutPlace_6 (l : Launch) (E : wg_E)  (z : Int32 × wg_M) : ∀ (n : Nat) (x0 : Nat) (x1 : Int32) (x2 : Int32) (x3 : Int32) (σ : wg_M) (hx0 : wg_t Sc x0 = 10) (h : f_X8_cutPlace_6  n x0 x1 x2 x3 σ = some z), wg_G l E Sc "WornWigs$Told" cX8_cutPlace 5 (some .int) rm_X8_cutPlace (some z.1) z.2 6 [some (.ref x0), some (.int x1), some (.int x2), some (.int x3), none] [] σ := by
  intro n
  induction n with
  | zero => intro x0 x1 x2 x3 σ hx0 h; cases h
  | succ n ih =>
    intro x0 x1 x2 x3 σ hx0 h
    refine wr_iload_n (wg_da dt_X8_cutPlace 6 rfl) rfl ?_
    refine wr_bipush (10 : Int32) (wg_da dt_X8_cutPlace 7 rfl) (by decide) ?_
    refine wr_icmp_ge 49 (wg_da dt_X8_cutPlace 8 rfl) (by decide) h (fun h => ?_) (fun h => ?_)
    · refine wr_iload_n (wg_da dt_X8_cutPlace 30 rfl) rfl ?_
      exact wr_iret (wg_da dt_X8_cutPlace 31 rfl) h
    · refine wr_aload_n (wg_da dt_X8_cutPlace 9 rfl) rfl ?_
      refine wr_iconst (0 : Int32) (wg_da dt_X8_cutPlace 10 rfl) (by decide) ?_
      refine wr_iconst (0 : Int32) (wg_da dt_X8_cutPlace 11 rfl) (by decide) ?_
      refine wr_iload_n (wg_da dt_X8_cutPlace 12 rfl) rfl ?_
      refine wr_callVi [.int (0 : Int32), .int (0 : Int32), .int x3] [] (wg_da dt_X8_cutPlace 13 rfl) ⟨wq_6_35, wq_6_37, wq_p4_0⟩ hx0 ⟨rfl, by decide⟩ wy_X8_worthOf (fun q hq => m_X8_worthOf l E x0 (0 : Int32) (0 : Int32) x3 hx0 _ q hq) rfl rfl (Nat.le_of_ble_eq_true rfl) ⟨rfl, rfl, by decide, by decide⟩ h (fun v1 s2 h => ?_)
      refine wr_aload_n (wg_da dt_X8_cutPlace 14 rfl) rfl ?_
      refine wr_iconst (0 : Int32) (wg_da dt_X8_cutPlace 15 rfl) (by decide) ?_
      refine wr_iload_n (wg_da dt_X8_cutPlace 16 rfl) rfl ?_
      refine wr_bipush (10 : Int32) (wg_da dt_X8_cutPlace 17 rfl) (by decide) ?_
      refine wr_callVi [.int (0 : Int32), .int x3, .int (10 : Int32)] [.int v1] (wg_da dt_X8_cutPlace 18 rfl) ⟨wq_6_35, wq_6_37, wq_p4_0⟩ hx0 ⟨rfl, by decide⟩ wy_X8_worthOf (fun q hq => m_X8_worthOf l E x0 (0 : Int32) x3 (10 : Int32) hx0 _ q hq) rfl rfl (Nat.le_of_ble_eq_true rfl) ⟨rfl, rfl, by decide, by decide⟩ h (fun v3 s4 h => ?_)
      refine wr_callSi [.int v1, .int v3] [] (wg_da dt_X8_cutPlace 19 rfl) ⟨wq_6_39, wq_3_98⟩ wy_J9_min_7cf53 (fun q hq => m_J9_min_7cf53 l E v1 v3  _ q hq) rfl rfl (Nat.le_of_ble_eq_true rfl) ⟨rfl, rfl, by decide, by decide⟩ h (fun v5 s6 h => ?_)
      refine wr_istore (wg_da dt_X8_cutPlace 20 rfl) (by decide) ?_
      refine wr_iload (wg_da dt_X8_cutPlace 21 rfl) rfl ?_
      refine wr_iload_n (wg_da dt_X8_cutPlace 22 rfl) rfl ?_
      refine wr_icmp_le 43 (wg_da dt_X8_cutPlace 23 rfl) (by decide) h (fun h => ?_) (fun h => ?_)
      · exact wr_wk [true, true, true, true, false] (g_X8_cutPlace_43 l E (f_X8_cutPlace_6  n) x0 x1 x2 x3 s6 _ hx0 (fun x0 x1 x2 x3 σ hx0 h => ih x0 x1 x2 x3 σ hx0 h) h)
      · refine wr_iload_n (wg_da dt_X8_cutPlace 24 rfl) rfl ?_
        refine wr_istore_n (wg_da dt_X8_cutPlace 25 rfl) (by decide) ?_
        refine wr_iload (wg_da dt_X8_cutPlace 26 rfl) rfl ?_
        refine wr_istore_n (wg_da dt_X8_cutPlace 27 rfl) (by decide) ?_
        exact wr_wk [true, true, true, true, false] (g_X8_cutPlace_43 l E (f_X8_cutPlace_6  n) x0 x3 v5 x3 s6 _ hx0 (fun x0 x1 x2 x3 σ hx0 h => ih x0 x1 x2 x3 σ hx0 h) h)
set_option maxRecDepth 20000 in
theorem g_X8_cutPlace_e (l : Launch) (E : wg_E)  (x0 : Nat) (σ : wg_M) (z : Int32 × wg_M) (hx0 : wg_t Sc x0 = 10) (h : f_X8_cutPlace  x0 σ = some z) : wg_G l E Sc "WornWigs$Told" cX8_cutPlace 5 (some .int) rm_X8_cutPlace (some z.1) z.2 0 [some (.ref x0), none, none, none, none] [] σ := by
  refine wr_iconst (1 : Int32) (wg_da dt_X8_cutPlace 0 rfl) (by decide) ?_
  refine wr_istore_n (wg_da dt_X8_cutPlace 1 rfl) (by decide) ?_
  refine wr_iconst (-1 : Int32) (wg_da dt_X8_cutPlace 2 rfl) (by decide) ?_
  refine wr_istore_n (wg_da dt_X8_cutPlace 3 rfl) (by decide) ?_
  refine wr_iconst (1 : Int32) (wg_da dt_X8_cutPlace 4 rfl) (by decide) ?_
  refine wr_istore_n (wg_da dt_X8_cutPlace 5 rfl) (by decide) ?_
  exact wr_wk [true, true, true, true, false] (g_X8_cutPlace_6 l E  _  wg_N x0 (1 : Int32) (-1 : Int32) (1 : Int32) σ hx0 h)
theorem m_X8_cutPlace (l : Launch) (E : wg_E) (x0 : Nat) (hx0 : wg_t Sc x0 = 10) (σ : wg_M) (q : Int32 × wg_M) (h : f_X8_cutPlace x0 σ = some q) : wg_MG l E Sc yX8_cutPlace cX8_cutPlace 5 (some .int) rm_X8_cutPlace [.ref x0] σ (some q.1) q.2 :=
  wg_met [.ref x0] (plainFor_of_name (by decide)) (Nat.le_of_ble_eq_true rfl) (g_X8_cutPlace_e l E x0 σ q hx0 h)
abbrev rm_X8_otherHas : Room := { frames := 2, cells := 0, slots := 0, locals := 49 }
def tb_X8_otherHas : List (Nat × Instr × Nat) := [(0, .aload_n 0, 1), (1, .invokevirtual 77, 3), (4, .istore_n 1, 1), (5, .aload_n 0, 1), (6, .iconst 1, 1), (7, .iconst 0, 1), (8, .iload_n 1, 1), (9, .invokevirtual 67, 3), (12, .aload_n 0, 1), (13, .iconst 1, 1), (14, .iload_n 1, 1), (15, .bipush 10, 2), (17, .invokevirtual 67, 3), (20, .invokestatic 81, 3), (23, .ireturn, 1)]
theorem dt_X8_otherHas : wg_dc cX8_otherHas tb_X8_otherHas := by unfold wg_dc; decide +kernel
def f_X8_otherHas  (x0 : Nat) (σ : wg_M) : Option (Int32 × wg_M) := wg_bd (f_X8_cutPlace x0 σ) (fun v1 s2 => wg_bd (f_X8_worthOf x0 (1 : Int32) (0 : Int32) v1 s2) (fun v3 s4 => wg_bd (f_X8_worthOf x0 (1 : Int32) v1 (10 : Int32) s4) (fun v5 s6 => wg_bd (f_J9_max_7cf53 v3 v5 s6) (fun v7 s8 => some (v7, s8)))))
set_option maxRecDepth 20000 in
theorem g_X8_otherHas_e (l : Launch) (E : wg_E)  (x0 : Nat) (σ : wg_M) (z : Int32 × wg_M) (hx0 : wg_t Sc x0 = 10) (h : f_X8_otherHas  x0 σ = some z) : wg_G l E Sc "WornWigs$Told" cX8_otherHas 2 (some .int) rm_X8_otherHas (some z.1) z.2 0 [some (.ref x0), none] [] σ := by
  refine wr_aload_n (wg_da dt_X8_otherHas 0 rfl) rfl ?_
  refine wr_callVi [] [] (wg_da dt_X8_otherHas 1 rfl) ⟨wq_6_44, wq_6_32, wq_6_33⟩ hx0 ⟨rfl, by decide⟩ wy_X8_cutPlace (fun q hq => m_X8_cutPlace l E x0 hx0 _ q hq) rfl rfl (Nat.le_of_ble_eq_true rfl) ⟨rfl, rfl, by decide, by decide⟩ h (fun v1 s2 h => ?_)
  refine wr_istore_n (wg_da dt_X8_otherHas 2 rfl) (by decide) ?_
  refine wr_aload_n (wg_da dt_X8_otherHas 3 rfl) rfl ?_
  refine wr_iconst (1 : Int32) (wg_da dt_X8_otherHas 4 rfl) (by decide) ?_
  refine wr_iconst (0 : Int32) (wg_da dt_X8_otherHas 5 rfl) (by decide) ?_
  refine wr_iload_n (wg_da dt_X8_otherHas 6 rfl) rfl ?_
  refine wr_callVi [.int (1 : Int32), .int (0 : Int32), .int v1] [] (wg_da dt_X8_otherHas 7 rfl) ⟨wq_6_35, wq_6_37, wq_p4_0⟩ hx0 ⟨rfl, by decide⟩ wy_X8_worthOf (fun q hq => m_X8_worthOf l E x0 (1 : Int32) (0 : Int32) v1 hx0 _ q hq) rfl rfl (Nat.le_of_ble_eq_true rfl) ⟨rfl, rfl, by decide, by decide⟩ h (fun v3 s4 h => ?_)
  refine wr_aload_n (wg_da dt_X8_otherHas 8 rfl) rfl ?_
  refine wr_iconst (1 : Int32) (wg_da dt_X8_otherHas 9 rfl) (by decide) ?_
  refine wr_iload_n (wg_da dt_X8_otherHas 10 rfl) rfl ?_
  refine wr_bipush (10 : Int32) (wg_da dt_X8_otherHas 11 rfl) (by decide) ?_
  refine wr_callVi [.int (1 : Int32), .int v1, .int (10 : Int32)] [.int v3] (wg_da dt_X8_otherHas 12 rfl) ⟨wq_6_35, wq_6_37, wq_p4_0⟩ hx0 ⟨rfl, by decide⟩ wy_X8_worthOf (fun q hq => m_X8_worthOf l E x0 (1 : Int32) v1 (10 : Int32) hx0 _ q hq) rfl rfl (Nat.le_of_ble_eq_true rfl) ⟨rfl, rfl, by decide, by decide⟩ h (fun v5 s6 h => ?_)
  refine wr_callSi [.int v3, .int v5] [] (wg_da dt_X8_otherHas 13 rfl) ⟨wq_6_45, wq_1_202⟩ wy_J9_max_7cf53 (fun q hq => m_J9_max_7cf53 l E v3 v5  _ q hq) rfl rfl (Nat.le_of_ble_eq_true rfl) ⟨rfl, rfl, by decide, by decide⟩ h (fun v7 s8 h => ?_)
  exact wr_iret (wg_da dt_X8_otherHas 14 rfl) h
theorem m_X8_otherHas (l : Launch) (E : wg_E) (x0 : Nat) (hx0 : wg_t Sc x0 = 10) (σ : wg_M) (q : Int32 × wg_M) (h : f_X8_otherHas x0 σ = some q) : wg_MG l E Sc yX8_otherHas cX8_otherHas 2 (some .int) rm_X8_otherHas [.ref x0] σ (some q.1) q.2 :=
  wg_met [.ref x0] (plainFor_of_name (by decide)) (Nat.le_of_ble_eq_true rfl) (g_X8_otherHas_e l E x0 σ q hx0 h)
abbrev rm_X8_oneHas : Room := { frames := 2, cells := 0, slots := 0, locals := 49 }
def tb_X8_oneHas : List (Nat × Instr × Nat) := [(0, .aload_n 0, 1), (1, .invokevirtual 77, 3), (4, .istore_n 1, 1), (5, .aload_n 0, 1), (6, .iconst 1, 1), (7, .iconst 0, 1), (8, .iload_n 1, 1), (9, .invokevirtual 67, 3), (12, .aload_n 0, 1), (13, .iconst 1, 1), (14, .iload_n 1, 1), (15, .bipush 10, 2), (17, .invokevirtual 67, 3), (20, .if_icmp .lt 7, 3), (23, .iconst 1, 1), (24, .goto 4, 3), (27, .iconst 0, 1), (28, .istore_n 2, 1), (29, .iload_n 2, 1), (30, .ifCond .eq 14, 3), (33, .aload_n 0, 1), (34, .iconst 0, 1), (35, .iload_n 1, 1), (36, .bipush 10, 2), (38, .invokevirtual 67, 3), (41, .goto 10, 3), (44, .aload_n 0, 1), (45, .iconst 0, 1), (46, .iconst 0, 1), (47, .iload_n 1, 1), (48, .invokevirtual 67, 3), (51, .ireturn, 1)]
theorem dt_X8_oneHas : wg_dc cX8_oneHas tb_X8_oneHas := by unfold wg_dc; decide +kernel
def f_X8_oneHas_28  (x0 : Nat) (x1 : Int32) (t0 : Int32) (σ : wg_M) : Option (Int32 × wg_M) := if t0 = 0 then (wg_bd (f_X8_worthOf x0 (0 : Int32) (0 : Int32) x1 σ) (fun v1 s2 => some (v1, s2))) else (wg_bd (f_X8_worthOf x0 (0 : Int32) x1 (10 : Int32) σ) (fun v3 s4 => some (v3, s4)))
def f_X8_oneHas  (x0 : Nat) (σ : wg_M) : Option (Int32 × wg_M) := wg_bd (f_X8_cutPlace x0 σ) (fun v1 s2 => wg_bd (f_X8_worthOf x0 (1 : Int32) (0 : Int32) v1 s2) (fun v3 s4 => wg_bd (f_X8_worthOf x0 (1 : Int32) v1 (10 : Int32) s4) (fun v5 s6 => if v3 < v5 then (f_X8_oneHas_28  x0 v1 (0 : Int32) s6) else (f_X8_oneHas_28  x0 v1 (1 : Int32) s6))))
set_option maxRecDepth 20000 in
theorem g_X8_oneHas_28 (l : Launch) (E : wg_E)  (x0 : Nat) (x1 : Int32) (t0 : Int32) (σ : wg_M) (z : Int32 × wg_M) (hx0 : wg_t Sc x0 = 10) (h : f_X8_oneHas_28  x0 x1 t0 σ = some z) : wg_G l E Sc "WornWigs$Told" cX8_oneHas 3 (some .int) rm_X8_oneHas (some z.1) z.2 28 [some (.ref x0), some (.int x1), none] [.int t0] σ := by
  refine wr_istore_n (wg_da dt_X8_oneHas 17 rfl) (by decide) ?_
  refine wr_iload_n (wg_da dt_X8_oneHas 18 rfl) rfl ?_
  refine wr_if_eq 44 (wg_da dt_X8_oneHas 19 rfl) (by decide) h (fun h => ?_) (fun h => ?_)
  · refine wr_aload_n (wg_da dt_X8_oneHas 26 rfl) rfl ?_
    refine wr_iconst (0 : Int32) (wg_da dt_X8_oneHas 27 rfl) (by decide) ?_
    refine wr_iconst (0 : Int32) (wg_da dt_X8_oneHas 28 rfl) (by decide) ?_
    refine wr_iload_n (wg_da dt_X8_oneHas 29 rfl) rfl ?_
    refine wr_callVi [.int (0 : Int32), .int (0 : Int32), .int x1] [] (wg_da dt_X8_oneHas 30 rfl) ⟨wq_6_35, wq_6_37, wq_p4_0⟩ hx0 ⟨rfl, by decide⟩ wy_X8_worthOf (fun q hq => m_X8_worthOf l E x0 (0 : Int32) (0 : Int32) x1 hx0 _ q hq) rfl rfl (Nat.le_of_ble_eq_true rfl) ⟨rfl, rfl, by decide, by decide⟩ h (fun v1 s2 h => ?_)
    exact wr_iret (wg_da dt_X8_oneHas 31 rfl) h
  · refine wr_aload_n (wg_da dt_X8_oneHas 20 rfl) rfl ?_
    refine wr_iconst (0 : Int32) (wg_da dt_X8_oneHas 21 rfl) (by decide) ?_
    refine wr_iload_n (wg_da dt_X8_oneHas 22 rfl) rfl ?_
    refine wr_bipush (10 : Int32) (wg_da dt_X8_oneHas 23 rfl) (by decide) ?_
    refine wr_callVi [.int (0 : Int32), .int x1, .int (10 : Int32)] [] (wg_da dt_X8_oneHas 24 rfl) ⟨wq_6_35, wq_6_37, wq_p4_0⟩ hx0 ⟨rfl, by decide⟩ wy_X8_worthOf (fun q hq => m_X8_worthOf l E x0 (0 : Int32) x1 (10 : Int32) hx0 _ q hq) rfl rfl (Nat.le_of_ble_eq_true rfl) ⟨rfl, rfl, by decide, by decide⟩ h (fun v3 s4 h => ?_)
    refine wr_goto 51 (wg_da dt_X8_oneHas 25 rfl) (by decide) ?_
    exact wr_iret (wg_da dt_X8_oneHas 31 rfl) h
set_option maxRecDepth 20000 in
theorem g_X8_oneHas_e (l : Launch) (E : wg_E)  (x0 : Nat) (σ : wg_M) (z : Int32 × wg_M) (hx0 : wg_t Sc x0 = 10) (h : f_X8_oneHas  x0 σ = some z) : wg_G l E Sc "WornWigs$Told" cX8_oneHas 3 (some .int) rm_X8_oneHas (some z.1) z.2 0 [some (.ref x0), none, none] [] σ := by
  refine wr_aload_n (wg_da dt_X8_oneHas 0 rfl) rfl ?_
  refine wr_callVi [] [] (wg_da dt_X8_oneHas 1 rfl) ⟨wq_6_44, wq_6_32, wq_6_33⟩ hx0 ⟨rfl, by decide⟩ wy_X8_cutPlace (fun q hq => m_X8_cutPlace l E x0 hx0 _ q hq) rfl rfl (Nat.le_of_ble_eq_true rfl) ⟨rfl, rfl, by decide, by decide⟩ h (fun v1 s2 h => ?_)
  refine wr_istore_n (wg_da dt_X8_oneHas 2 rfl) (by decide) ?_
  refine wr_aload_n (wg_da dt_X8_oneHas 3 rfl) rfl ?_
  refine wr_iconst (1 : Int32) (wg_da dt_X8_oneHas 4 rfl) (by decide) ?_
  refine wr_iconst (0 : Int32) (wg_da dt_X8_oneHas 5 rfl) (by decide) ?_
  refine wr_iload_n (wg_da dt_X8_oneHas 6 rfl) rfl ?_
  refine wr_callVi [.int (1 : Int32), .int (0 : Int32), .int v1] [] (wg_da dt_X8_oneHas 7 rfl) ⟨wq_6_35, wq_6_37, wq_p4_0⟩ hx0 ⟨rfl, by decide⟩ wy_X8_worthOf (fun q hq => m_X8_worthOf l E x0 (1 : Int32) (0 : Int32) v1 hx0 _ q hq) rfl rfl (Nat.le_of_ble_eq_true rfl) ⟨rfl, rfl, by decide, by decide⟩ h (fun v3 s4 h => ?_)
  refine wr_aload_n (wg_da dt_X8_oneHas 8 rfl) rfl ?_
  refine wr_iconst (1 : Int32) (wg_da dt_X8_oneHas 9 rfl) (by decide) ?_
  refine wr_iload_n (wg_da dt_X8_oneHas 10 rfl) rfl ?_
  refine wr_bipush (10 : Int32) (wg_da dt_X8_oneHas 11 rfl) (by decide) ?_
  refine wr_callVi [.int (1 : Int32), .int v1, .int (10 : Int32)] [.int v3] (wg_da dt_X8_oneHas 12 rfl) ⟨wq_6_35, wq_6_37, wq_p4_0⟩ hx0 ⟨rfl, by decide⟩ wy_X8_worthOf (fun q hq => m_X8_worthOf l E x0 (1 : Int32) v1 (10 : Int32) hx0 _ q hq) rfl rfl (Nat.le_of_ble_eq_true rfl) ⟨rfl, rfl, by decide, by decide⟩ h (fun v5 s6 h => ?_)
  refine wr_icmp_lt 27 (wg_da dt_X8_oneHas 13 rfl) (by decide) h (fun h => ?_) (fun h => ?_)
  · refine wr_iconst (0 : Int32) (wg_da dt_X8_oneHas 16 rfl) (by decide) ?_
    exact wr_wk [true, true, false] (g_X8_oneHas_28 l E  x0 v1 (0 : Int32) s6 _ hx0  h)
  · refine wr_iconst (1 : Int32) (wg_da dt_X8_oneHas 14 rfl) (by decide) ?_
    refine wr_goto 28 (wg_da dt_X8_oneHas 15 rfl) (by decide) ?_
    exact wr_wk [true, true, false] (g_X8_oneHas_28 l E  x0 v1 (1 : Int32) s6 _ hx0  h)
theorem m_X8_oneHas (l : Launch) (E : wg_E) (x0 : Nat) (hx0 : wg_t Sc x0 = 10) (σ : wg_M) (q : Int32 × wg_M) (h : f_X8_oneHas x0 σ = some q) : wg_MG l E Sc yX8_oneHas cX8_oneHas 3 (some .int) rm_X8_oneHas [.ref x0] σ (some q.1) q.2 :=
  wg_met [.ref x0] (plainFor_of_name (by decide)) (Nat.le_of_ble_eq_true rfl) (g_X8_oneHas_e l E x0 σ q hx0 h)
abbrev rm_X8_soonestDue : Room := { frames := 0, cells := 0, slots := 0, locals := 0 }
def tb_X8_soonestDue : List (Nat × Instr × Nat) := [(0, .iconst (-1), 1), (1, .istore_n 2, 1), (2, .iconst 0, 1), (3, .istore_n 3, 1), (4, .iload_n 3, 1), (5, .aload_n 0, 1), (6, .getfield 50, 3), (9, .if_icmp .ge 39, 3), (12, .iload_n 1, 1), (13, .iload_n 3, 1), (14, .ishr, 1), (15, .iconst 1, 1), (16, .iand, 1), (17, .ifCond .ne 25, 3), (20, .iload_n 2, 1), (21, .iconst (-1), 1), (22, .if_icmp .eq 18, 3), (25, .aload_n 0, 1), (26, .getfield 33, 3), (29, .iload_n 3, 1), (30, .iaload, 1), (31, .aload_n 0, 1), (32, .getfield 33, 3), (35, .iload_n 2, 1), (36, .iaload, 1), (37, .if_icmp .ge 5, 3), (40, .iload_n 3, 1), (41, .istore_n 2, 1), (42, .iinc 3 1, 3), (45, .goto (-41), 3), (48, .iload_n 2, 1), (49, .ireturn, 1)]
theorem dt_X8_soonestDue : wg_dc cX8_soonestDue tb_X8_soonestDue := by unfold wg_dc; decide +kernel
def f_X8_soonestDue_42 (k4 : Nat → Int32 → Int32 → Int32 → wg_M → Option (Int32 × wg_M)) (x0 : Nat) (x1 : Int32) (x2 : Int32) (x3 : Int32) (σ : wg_M) : Option (Int32 × wg_M) := wg_let (x3 + (1 : Int32)) (fun v1 => k4 x0 x1 x2 v1 σ)
def f_X8_soonestDue_40 (k4 : Nat → Int32 → Int32 → Int32 → wg_M → Option (Int32 × wg_M)) (x0 : Nat) (x1 : Int32) (x3 : Int32) (σ : wg_M) : Option (Int32 × wg_M) := f_X8_soonestDue_42 k4 x0 x1 x3 x3 σ
def f_X8_soonestDue_4  : Nat → Nat → Int32 → Int32 → Int32 → wg_M → Option (Int32 × wg_M)
  | 0, _, _, _, _, _ => none
  | n + 1, x0, x1, x2, x3, σ => if (σ x0 10) ≤ x3 then (some (x2, σ)) else (if ((x1 >>> (x3 &&& 31)) &&& (1 : Int32)) = 0 then (if x2 = (-1 : Int32) then (f_X8_soonestDue_40 (f_X8_soonestDue_4  n) x0 x1 x3 σ) else (wg_ga (wg_n Sc (wg_r Sc x0 9)) (σ (wg_r Sc x0 9)) x3 (fun v1 => wg_ga (wg_n Sc (wg_r Sc x0 9)) (σ (wg_r Sc x0 9)) x2 (fun v2 => if v2 ≤ v1 then (f_X8_soonestDue_42 (f_X8_soonestDue_4  n) x0 x1 x2 x3 σ) else (f_X8_soonestDue_40 (f_X8_soonestDue_4  n) x0 x1 x3 σ))))) else (f_X8_soonestDue_42 (f_X8_soonestDue_4  n) x0 x1 x2 x3 σ))
def f_X8_soonestDue  (x0 : Nat) (x1 : Int32) (σ : wg_M) : Option (Int32 × wg_M) := f_X8_soonestDue_4  wg_N x0 x1 (-1 : Int32) (0 : Int32) σ
set_option maxRecDepth 20000 in
theorem g_X8_soonestDue_42 (l : Launch) (E : wg_E) (k4 : Nat → Int32 → Int32 → Int32 → wg_M → Option (Int32 × wg_M)) (x0 : Nat) (x1 : Int32) (x2 : Int32) (x3 : Int32) (σ : wg_M) (z : Int32 × wg_M) (hx0 : wg_t Sc x0 = 10) (hk4 : ∀ (x0 : Nat) (x1 : Int32) (x2 : Int32) (x3 : Int32) (σ : wg_M), wg_t Sc x0 = 10 → k4 x0 x1 x2 x3 σ = some z → wg_G l E Sc "WornWigs$Told" cX8_soonestDue 4 (some .int) rm_X8_soonestDue (some z.1) z.2 4 [some (.ref x0), some (.int x1), some (.int x2), some (.int x3)] [] σ) (h : f_X8_soonestDue_42 k4 x0 x1 x2 x3 σ = some z) : wg_G l E Sc "WornWigs$Told" cX8_soonestDue 4 (some .int) rm_X8_soonestDue (some z.1) z.2 42 [some (.ref x0), some (.int x1), some (.int x2), some (.int x3)] [] σ := by
  refine wr_iinc (c0 := (1 : Int32)) (wg_da dt_X8_soonestDue 28 rfl) rfl (by decide) (by decide) h (fun v1 h => ?_)
  refine wr_goto 4 (wg_da dt_X8_soonestDue 29 rfl) (by decide) ?_
  exact wr_wk [true, true, true, true] (hk4 x0 x1 x2 v1 σ hx0 h)
set_option maxRecDepth 20000 in
theorem g_X8_soonestDue_40 (l : Launch) (E : wg_E) (k4 : Nat → Int32 → Int32 → Int32 → wg_M → Option (Int32 × wg_M)) (x0 : Nat) (x1 : Int32) (x3 : Int32) (σ : wg_M) (z : Int32 × wg_M) (hx0 : wg_t Sc x0 = 10) (hk4 : ∀ (x0 : Nat) (x1 : Int32) (x2 : Int32) (x3 : Int32) (σ : wg_M), wg_t Sc x0 = 10 → k4 x0 x1 x2 x3 σ = some z → wg_G l E Sc "WornWigs$Told" cX8_soonestDue 4 (some .int) rm_X8_soonestDue (some z.1) z.2 4 [some (.ref x0), some (.int x1), some (.int x2), some (.int x3)] [] σ) (h : f_X8_soonestDue_40 k4 x0 x1 x3 σ = some z) : wg_G l E Sc "WornWigs$Told" cX8_soonestDue 4 (some .int) rm_X8_soonestDue (some z.1) z.2 40 [some (.ref x0), some (.int x1), none, some (.int x3)] [] σ := by
  refine wr_iload_n (wg_da dt_X8_soonestDue 26 rfl) rfl ?_
  refine wr_istore_n (wg_da dt_X8_soonestDue 27 rfl) (by decide) ?_
  exact wr_wk [true, true, true, true] (g_X8_soonestDue_42 l E k4 x0 x1 x3 x3 σ _ hx0 hk4 h)
set_option maxRecDepth 20000 in
theorem g_X8_soonestDue_4 (l : Launch) (E : wg_E)  (z : Int32 × wg_M) : ∀ (n : Nat) (x0 : Nat) (x1 : Int32) (x2 : Int32) (x3 : Int32) (σ : wg_M) (hx0 : wg_t Sc x0 = 10) (h : f_X8_soonestDue_4  n x0 x1 x2 x3 σ = some z), wg_G l E Sc "WornWigs$Told" cX8_soonestDue 4 (some .int) rm_X8_soonestDue (some z.1) z.2 4 [some (.ref x0), some (.int x1), some (.int x2), some (.int x3)] [] σ := by
  intro n
  induction n with
  | zero => intro x0 x1 x2 x3 σ hx0 h; cases h
  | succ n ih =>
    intro x0 x1 x2 x3 σ hx0 h
    refine wr_iload_n (wg_da dt_X8_soonestDue 4 rfl) rfl ?_
    refine wr_aload_n (wg_da dt_X8_soonestDue 5 rfl) rfl ?_
    refine wr_getI wf_X8_50 (wg_da dt_X8_soonestDue 6 rfl) hx0 ?_
    refine wr_icmp_ge 48 (wg_da dt_X8_soonestDue 7 rfl) (by decide) h (fun h => ?_) (fun h => ?_)
    · refine wr_iload_n (wg_da dt_X8_soonestDue 30 rfl) rfl ?_
      exact wr_iret (wg_da dt_X8_soonestDue 31 rfl) h
    · refine wr_iload_n (wg_da dt_X8_soonestDue 8 rfl) rfl ?_
      refine wr_iload_n (wg_da dt_X8_soonestDue 9 rfl) rfl ?_
      refine wr_ishr (wg_da dt_X8_soonestDue 10 rfl) ?_
      refine wr_iconst (1 : Int32) (wg_da dt_X8_soonestDue 11 rfl) (by decide) ?_
      refine wr_iand (wg_da dt_X8_soonestDue 12 rfl) ?_
      refine wr_if_ne 42 (wg_da dt_X8_soonestDue 13 rfl) (by decide) h (fun h => ?_) (fun h => ?_)
      · refine wr_iload_n (wg_da dt_X8_soonestDue 14 rfl) rfl ?_
        refine wr_iconst (-1 : Int32) (wg_da dt_X8_soonestDue 15 rfl) (by decide) ?_
        refine wr_icmp_eq 40 (wg_da dt_X8_soonestDue 16 rfl) (by decide) h (fun h => ?_) (fun h => ?_)
        · exact wr_wk [true, true, false, true] (g_X8_soonestDue_40 l E (f_X8_soonestDue_4  n) x0 x1 x3 σ _ hx0 (fun x0 x1 x2 x3 σ hx0 h => ih x0 x1 x2 x3 σ hx0 h) h)
        · refine wr_aload_n (wg_da dt_X8_soonestDue 17 rfl) rfl ?_
          refine wr_getR wf_X8_33 (wg_da dt_X8_soonestDue 18 rfl) hx0 ?_
          refine wr_iload_n (wg_da dt_X8_soonestDue 19 rfl) rfl ?_
          refine wr_iald (wg_da dt_X8_soonestDue 20 rfl) (wg_ty Sc_ok 8 9 0 hx0 rfl (by decide)).2 h (fun v1 h => ?_)
          refine wr_aload_n (wg_da dt_X8_soonestDue 21 rfl) rfl ?_
          refine wr_getR wf_X8_33 (wg_da dt_X8_soonestDue 22 rfl) hx0 ?_
          refine wr_iload_n (wg_da dt_X8_soonestDue 23 rfl) rfl ?_
          refine wr_iald (wg_da dt_X8_soonestDue 24 rfl) (wg_ty Sc_ok 8 9 0 hx0 rfl (by decide)).2 h (fun v2 h => ?_)
          refine wr_icmp_ge 42 (wg_da dt_X8_soonestDue 25 rfl) (by decide) h (fun h => ?_) (fun h => ?_)
          · exact wr_wk [true, true, true, true] (g_X8_soonestDue_42 l E (f_X8_soonestDue_4  n) x0 x1 x2 x3 σ _ hx0 (fun x0 x1 x2 x3 σ hx0 h => ih x0 x1 x2 x3 σ hx0 h) h)
          · exact wr_wk [true, true, false, true] (g_X8_soonestDue_40 l E (f_X8_soonestDue_4  n) x0 x1 x3 σ _ hx0 (fun x0 x1 x2 x3 σ hx0 h => ih x0 x1 x2 x3 σ hx0 h) h)
      · exact wr_wk [true, true, true, true] (g_X8_soonestDue_42 l E (f_X8_soonestDue_4  n) x0 x1 x2 x3 σ _ hx0 (fun x0 x1 x2 x3 σ hx0 h => ih x0 x1 x2 x3 σ hx0 h) h)
set_option maxRecDepth 20000 in
theorem g_X8_soonestDue_e (l : Launch) (E : wg_E)  (x0 : Nat) (x1 : Int32) (σ : wg_M) (z : Int32 × wg_M) (hx0 : wg_t Sc x0 = 10) (h : f_X8_soonestDue  x0 x1 σ = some z) : wg_G l E Sc "WornWigs$Told" cX8_soonestDue 4 (some .int) rm_X8_soonestDue (some z.1) z.2 0 [some (.ref x0), some (.int x1), none, none] [] σ := by
  refine wr_iconst (-1 : Int32) (wg_da dt_X8_soonestDue 0 rfl) (by decide) ?_
  refine wr_istore_n (wg_da dt_X8_soonestDue 1 rfl) (by decide) ?_
  refine wr_iconst (0 : Int32) (wg_da dt_X8_soonestDue 2 rfl) (by decide) ?_
  refine wr_istore_n (wg_da dt_X8_soonestDue 3 rfl) (by decide) ?_
  exact wr_wk [true, true, true, true] (g_X8_soonestDue_4 l E  _  wg_N x0 x1 (-1 : Int32) (0 : Int32) σ hx0 h)
theorem m_X8_soonestDue (l : Launch) (E : wg_E) (x0 : Nat) (x1 : Int32) (hx0 : wg_t Sc x0 = 10) (σ : wg_M) (q : Int32 × wg_M) (h : f_X8_soonestDue x0 x1 σ = some q) : wg_MG l E Sc yX8_soonestDue cX8_soonestDue 4 (some .int) rm_X8_soonestDue [.ref x0, .int x1] σ (some q.1) q.2 :=
  wg_met [.ref x0, .int x1] (plainFor_of_name (by decide)) (Nat.le_of_ble_eq_true rfl) (g_X8_soonestDue_e l E x0 x1 σ q hx0 h)
abbrev rm_X8_lateness : Room := { frames := 1, cells := 0, slots := 0, locals := 23 }
def tb_X8_lateness : List (Nat × Instr × Nat) := [(0, .iconst 0, 1), (1, .istore_n 3, 1), (2, .iload_n 1, 1), (3, .istore 4, 2), (5, .iload_n 2, 1), (6, .istore 5, 2), (8, .iconst 0, 1), (9, .istore 6, 2), (11, .iload 6, 2), (13, .aload_n 0, 1), (14, .getfield 50, 3), (17, .if_icmp .ge 61, 3), (20, .aload_n 0, 1), (21, .iload 4, 2), (23, .invokevirtual 84, 3), (26, .istore 7, 2), (28, .iload 7, 2), (30, .iconst (-1), 1), (31, .if_icmp .ne 5, 3), (34, .iload_n 3, 1), (35, .ireturn, 1), (36, .iload 4, 2), (38, .iconst 1, 1), (39, .iload 7, 2), (41, .ishl, 1), (42, .ior, 1), (43, .istore 4, 2), (45, .iload 5, 2), (47, .aload_n 0, 1), (48, .getfield 30, 3), (51, .iload 7, 2), (53, .iaload, 1), (54, .iadd, 1), (55, .istore 5, 2), (57, .iload_n 3, 1), (58, .iload 5, 2), (60, .aload_n 0, 1), (61, .getfield 33, 3), (64, .iload 7, 2), (66, .iaload, 1), (67, .isub, 1), (68, .invokestatic 81, 3), (71, .istore_n 3, 1), (72, .iinc 6 1, 3), (75, .goto (-64), 3), (78, .iload_n 3, 1), (79, .ireturn, 1)]
theorem dt_X8_lateness : wg_dc cX8_lateness tb_X8_lateness := by unfold wg_dc; decide +kernel
def f_X8_lateness_11  : Nat → Nat → Int32 → Int32 → Int32 → Int32 → wg_M → Option (Int32 × wg_M)
  | 0, _, _, _, _, _, _ => none
  | n + 1, x0, x3, x4, x5, x6, σ => if (σ x0 10) ≤ x6 then (some (x3, σ)) else (wg_bd (f_X8_soonestDue x0 x4 σ) (fun v1 s2 => if v1 = (-1 : Int32) then (some (x3, s2)) else (wg_let (x4 ||| ((1 : Int32) <<< (v1 &&& 31))) (fun v3 => wg_ga (wg_n Sc (wg_r Sc x0 8)) (s2 (wg_r Sc x0 8)) v1 (fun v4 => wg_let (x5 + v4) (fun v5 => wg_ga (wg_n Sc (wg_r Sc x0 9)) (s2 (wg_r Sc x0 9)) v1 (fun v6 => wg_bd (f_J9_max_7cf53 x3 (v5 - v6) s2) (fun v7 s8 => wg_let (x6 + (1 : Int32)) (fun v9 => f_X8_lateness_11  n x0 v7 v3 v5 v9 s8)))))))))
def f_X8_lateness  (x0 : Nat) (x1 : Int32) (x2 : Int32) (σ : wg_M) : Option (Int32 × wg_M) := f_X8_lateness_11  wg_N x0 (0 : Int32) x1 x2 (0 : Int32) σ
set_option maxRecDepth 20000 in
theorem g_X8_lateness_11 (l : Launch) (E : wg_E)  (z : Int32 × wg_M) : ∀ (n : Nat) (x0 : Nat) (x3 : Int32) (x4 : Int32) (x5 : Int32) (x6 : Int32) (σ : wg_M) (hx0 : wg_t Sc x0 = 10) (h : f_X8_lateness_11  n x0 x3 x4 x5 x6 σ = some z), wg_G l E Sc "WornWigs$Told" cX8_lateness 8 (some .int) rm_X8_lateness (some z.1) z.2 11 [some (.ref x0), none, none, some (.int x3), some (.int x4), some (.int x5), some (.int x6), none] [] σ := by
  intro n
  induction n with
  | zero => intro x0 x3 x4 x5 x6 σ hx0 h; cases h
  | succ n ih =>
    intro x0 x3 x4 x5 x6 σ hx0 h
    refine wr_iload (wg_da dt_X8_lateness 8 rfl) rfl ?_
    refine wr_aload_n (wg_da dt_X8_lateness 9 rfl) rfl ?_
    refine wr_getI wf_X8_50 (wg_da dt_X8_lateness 10 rfl) hx0 ?_
    refine wr_icmp_ge 78 (wg_da dt_X8_lateness 11 rfl) (by decide) h (fun h => ?_) (fun h => ?_)
    · refine wr_iload_n (wg_da dt_X8_lateness 45 rfl) rfl ?_
      exact wr_iret (wg_da dt_X8_lateness 46 rfl) h
    · refine wr_aload_n (wg_da dt_X8_lateness 12 rfl) rfl ?_
      refine wr_iload (wg_da dt_X8_lateness 13 rfl) rfl ?_
      refine wr_callVi [.int x4] [] (wg_da dt_X8_lateness 14 rfl) ⟨wq_6_66, wq_6_68, wq_p4_1⟩ hx0 ⟨rfl, by decide⟩ wy_X8_soonestDue (fun q hq => m_X8_soonestDue l E x0 x4 hx0 _ q hq) rfl rfl (Nat.le_of_ble_eq_true rfl) ⟨rfl, rfl, by decide, by decide⟩ h (fun v1 s2 h => ?_)
      refine wr_istore (wg_da dt_X8_lateness 15 rfl) (by decide) ?_
      refine wr_iload (wg_da dt_X8_lateness 16 rfl) rfl ?_
      refine wr_iconst (-1 : Int32) (wg_da dt_X8_lateness 17 rfl) (by decide) ?_
      refine wr_icmp_ne 36 (wg_da dt_X8_lateness 18 rfl) (by decide) h (fun h => ?_) (fun h => ?_)
      · refine wr_iload_n (wg_da dt_X8_lateness 19 rfl) rfl ?_
        exact wr_iret (wg_da dt_X8_lateness 20 rfl) h
      · refine wr_iload (wg_da dt_X8_lateness 21 rfl) rfl ?_
        refine wr_iconst (1 : Int32) (wg_da dt_X8_lateness 22 rfl) (by decide) ?_
        refine wr_iload (wg_da dt_X8_lateness 23 rfl) rfl ?_
        refine wr_ishl (wg_da dt_X8_lateness 24 rfl) ?_
        refine wr_ior (wg_da dt_X8_lateness 25 rfl) ?_
        refine wr_let h (fun v3 h => ?_)
        refine wr_istore (wg_da dt_X8_lateness 26 rfl) (by decide) ?_
        refine wr_iload (wg_da dt_X8_lateness 27 rfl) rfl ?_
        refine wr_aload_n (wg_da dt_X8_lateness 28 rfl) rfl ?_
        refine wr_getR wf_X8_30 (wg_da dt_X8_lateness 29 rfl) hx0 ?_
        refine wr_iload (wg_da dt_X8_lateness 30 rfl) rfl ?_
        refine wr_iald (wg_da dt_X8_lateness 31 rfl) (wg_ty Sc_ok 8 8 0 hx0 rfl (by decide)).2 h (fun v4 h => ?_)
        refine wr_iadd (wg_da dt_X8_lateness 32 rfl) ?_
        refine wr_let h (fun v5 h => ?_)
        refine wr_istore (wg_da dt_X8_lateness 33 rfl) (by decide) ?_
        refine wr_iload_n (wg_da dt_X8_lateness 34 rfl) rfl ?_
        refine wr_iload (wg_da dt_X8_lateness 35 rfl) rfl ?_
        refine wr_aload_n (wg_da dt_X8_lateness 36 rfl) rfl ?_
        refine wr_getR wf_X8_33 (wg_da dt_X8_lateness 37 rfl) hx0 ?_
        refine wr_iload (wg_da dt_X8_lateness 38 rfl) rfl ?_
        refine wr_iald (wg_da dt_X8_lateness 39 rfl) (wg_ty Sc_ok 8 9 0 hx0 rfl (by decide)).2 h (fun v6 h => ?_)
        refine wr_isub (wg_da dt_X8_lateness 40 rfl) ?_
        refine wr_callSi [.int x3, .int (v5 - v6)] [] (wg_da dt_X8_lateness 41 rfl) ⟨wq_6_45, wq_1_202⟩ wy_J9_max_7cf53 (fun q hq => m_J9_max_7cf53 l E x3 (v5 - v6)  _ q hq) rfl rfl (Nat.le_of_ble_eq_true rfl) ⟨rfl, rfl, by decide, by decide⟩ h (fun v7 s8 h => ?_)
        refine wr_istore_n (wg_da dt_X8_lateness 42 rfl) (by decide) ?_
        refine wr_iinc (c0 := (1 : Int32)) (wg_da dt_X8_lateness 43 rfl) rfl (by decide) (by decide) h (fun v9 h => ?_)
        refine wr_goto 11 (wg_da dt_X8_lateness 44 rfl) (by decide) ?_
        exact wr_wk [true, false, false, true, true, true, true, false] (ih x0 v7 v3 v5 v9 s8 hx0 h)
set_option maxRecDepth 20000 in
theorem g_X8_lateness_e (l : Launch) (E : wg_E)  (x0 : Nat) (x1 : Int32) (x2 : Int32) (σ : wg_M) (z : Int32 × wg_M) (hx0 : wg_t Sc x0 = 10) (h : f_X8_lateness  x0 x1 x2 σ = some z) : wg_G l E Sc "WornWigs$Told" cX8_lateness 8 (some .int) rm_X8_lateness (some z.1) z.2 0 [some (.ref x0), some (.int x1), some (.int x2), none, none, none, none, none] [] σ := by
  refine wr_iconst (0 : Int32) (wg_da dt_X8_lateness 0 rfl) (by decide) ?_
  refine wr_istore_n (wg_da dt_X8_lateness 1 rfl) (by decide) ?_
  refine wr_iload_n (wg_da dt_X8_lateness 2 rfl) rfl ?_
  refine wr_istore (wg_da dt_X8_lateness 3 rfl) (by decide) ?_
  refine wr_iload_n (wg_da dt_X8_lateness 4 rfl) rfl ?_
  refine wr_istore (wg_da dt_X8_lateness 5 rfl) (by decide) ?_
  refine wr_iconst (0 : Int32) (wg_da dt_X8_lateness 6 rfl) (by decide) ?_
  refine wr_istore (wg_da dt_X8_lateness 7 rfl) (by decide) ?_
  exact wr_wk [true, false, false, true, true, true, true, false] (g_X8_lateness_11 l E  _  wg_N x0 (0 : Int32) x1 x2 (0 : Int32) σ hx0 h)
theorem m_X8_lateness (l : Launch) (E : wg_E) (x0 : Nat) (x1 : Int32) (x2 : Int32) (hx0 : wg_t Sc x0 = 10) (σ : wg_M) (q : Int32 × wg_M) (h : f_X8_lateness x0 x1 x2 σ = some q) : wg_MG l E Sc yX8_lateness cX8_lateness 8 (some .int) rm_X8_lateness [.ref x0, .int x1, .int x2] σ (some q.1) q.2 :=
  wg_met [.ref x0, .int x1, .int x2] (plainFor_of_name (by decide)) (Nat.le_of_ble_eq_true rfl) (g_X8_lateness_e l E x0 x1 x2 σ q hx0 h)
abbrev rm_X8_leastThatKeeps : Room := { frames := 2, cells := 0, slots := 0, locals := 50 }
def tb_X8_leastThatKeeps : List (Nat × Instr × Nat) := [(0, .iconst 0, 1), (1, .istore 4, 2), (3, .iload 4, 2), (5, .aload_n 0, 1), (6, .getfield 50, 3), (9, .if_icmp .ge 74, 3), (12, .iload_n 3, 1), (13, .aload_n 0, 1), (14, .getfield 30, 3), (17, .iload 4, 2), (19, .iaload, 1), (20, .iadd, 1), (21, .istore 5, 2), (23, .iload_n 2, 1), (24, .iload 4, 2), (26, .ishr, 1), (27, .iconst 1, 1), (28, .iand, 1), (29, .ifCond .ne 37, 3), (32, .iload 5, 2), (34, .aload_n 0, 1), (35, .getfield 33, 3), (38, .iload 4, 2), (40, .iaload, 1), (41, .isub, 1), (42, .iload_n 1, 1), (43, .if_icmp .gt 23, 3), (46, .aload_n 0, 1), (47, .iload_n 2, 1), (48, .iconst 1, 1), (49, .iload 4, 2), (51, .ishl, 1), (52, .ior, 1), (53, .iload 5, 2), (55, .invokevirtual 88, 3), (58, .iload_n 1, 1), (59, .if_icmp .gt 7, 3), (62, .iconst 1, 1), (63, .goto 4, 3), (66, .iconst 0, 1), (67, .istore 6, 2), (69, .iload 6, 2), (71, .ifCond .eq 6, 3), (74, .iload 4, 2), (76, .ireturn, 1), (77, .iinc 4 1, 3), (80, .goto (-77), 3), (83, .iconst (-1), 1), (84, .ireturn, 1)]
theorem dt_X8_leastThatKeeps : wg_dc cX8_leastThatKeeps tb_X8_leastThatKeeps := by unfold wg_dc; decide +kernel
def f_X8_leastThatKeeps_67 (k3 : Nat → Int32 → Int32 → Int32 → Int32 → wg_M → Option (Int32 × wg_M)) (x0 : Nat) (x1 : Int32) (x2 : Int32) (x3 : Int32) (x4 : Int32) (t0 : Int32) (σ : wg_M) : Option (Int32 × wg_M) := if t0 = 0 then (wg_let (x4 + (1 : Int32)) (fun v1 => k3 x0 x1 x2 x3 v1 σ)) else (some (x4, σ))
def f_X8_leastThatKeeps_66 (k3 : Nat → Int32 → Int32 → Int32 → Int32 → wg_M → Option (Int32 × wg_M)) (x0 : Nat) (x1 : Int32) (x2 : Int32) (x3 : Int32) (x4 : Int32) (σ : wg_M) : Option (Int32 × wg_M) := f_X8_leastThatKeeps_67 k3 x0 x1 x2 x3 x4 (0 : Int32) σ
def f_X8_leastThatKeeps_3  : Nat → Nat → Int32 → Int32 → Int32 → Int32 → wg_M → Option (Int32 × wg_M)
  | 0, _, _, _, _, _, _ => none
  | n + 1, x0, x1, x2, x3, x4, σ => if (σ x0 10) ≤ x4 then (some ((-1 : Int32), σ)) else (wg_ga (wg_n Sc (wg_r Sc x0 8)) (σ (wg_r Sc x0 8)) x4 (fun v1 => wg_let (x3 + v1) (fun v2 => if ((x2 >>> (x4 &&& 31)) &&& (1 : Int32)) = 0 then (wg_ga (wg_n Sc (wg_r Sc x0 9)) (σ (wg_r Sc x0 9)) x4 (fun v3 => if x1 < (v2 - v3) then (f_X8_leastThatKeeps_66 (f_X8_leastThatKeeps_3  n) x0 x1 x2 x3 x4 σ) else (wg_bd (f_X8_lateness x0 (x2 ||| ((1 : Int32) <<< (x4 &&& 31))) v2 σ) (fun v4 s5 => if x1 < v4 then (f_X8_leastThatKeeps_66 (f_X8_leastThatKeeps_3  n) x0 x1 x2 x3 x4 s5) else (f_X8_leastThatKeeps_67 (f_X8_leastThatKeeps_3  n) x0 x1 x2 x3 x4 (1 : Int32) s5))))) else (f_X8_leastThatKeeps_66 (f_X8_leastThatKeeps_3  n) x0 x1 x2 x3 x4 σ))))
def f_X8_leastThatKeeps  (x0 : Nat) (x1 : Int32) (x2 : Int32) (x3 : Int32) (σ : wg_M) : Option (Int32 × wg_M) := f_X8_leastThatKeeps_3  wg_N x0 x1 x2 x3 (0 : Int32) σ
set_option maxRecDepth 20000 in
theorem g_X8_leastThatKeeps_67 (l : Launch) (E : wg_E) (k3 : Nat → Int32 → Int32 → Int32 → Int32 → wg_M → Option (Int32 × wg_M)) (x0 : Nat) (x1 : Int32) (x2 : Int32) (x3 : Int32) (x4 : Int32) (t0 : Int32) (σ : wg_M) (z : Int32 × wg_M) (hx0 : wg_t Sc x0 = 10) (hk3 : ∀ (x0 : Nat) (x1 : Int32) (x2 : Int32) (x3 : Int32) (x4 : Int32) (σ : wg_M), wg_t Sc x0 = 10 → k3 x0 x1 x2 x3 x4 σ = some z → wg_G l E Sc "WornWigs$Told" cX8_leastThatKeeps 7 (some .int) rm_X8_leastThatKeeps (some z.1) z.2 3 [some (.ref x0), some (.int x1), some (.int x2), some (.int x3), some (.int x4), none, none] [] σ) (h : f_X8_leastThatKeeps_67 k3 x0 x1 x2 x3 x4 t0 σ = some z) : wg_G l E Sc "WornWigs$Told" cX8_leastThatKeeps 7 (some .int) rm_X8_leastThatKeeps (some z.1) z.2 67 [some (.ref x0), some (.int x1), some (.int x2), some (.int x3), some (.int x4), none, none] [.int t0] σ := by
  refine wr_istore (wg_da dt_X8_leastThatKeeps 40 rfl) (by decide) ?_
  refine wr_iload (wg_da dt_X8_leastThatKeeps 41 rfl) rfl ?_
  refine wr_if_eq 77 (wg_da dt_X8_leastThatKeeps 42 rfl) (by decide) h (fun h => ?_) (fun h => ?_)
  · refine wr_iinc (c0 := (1 : Int32)) (wg_da dt_X8_leastThatKeeps 45 rfl) rfl (by decide) (by decide) h (fun v1 h => ?_)
    refine wr_goto 3 (wg_da dt_X8_leastThatKeeps 46 rfl) (by decide) ?_
    exact wr_wk [true, true, true, true, true, false, false] (hk3 x0 x1 x2 x3 v1 σ hx0 h)
  · refine wr_iload (wg_da dt_X8_leastThatKeeps 43 rfl) rfl ?_
    exact wr_iret (wg_da dt_X8_leastThatKeeps 44 rfl) h
set_option maxRecDepth 20000 in
theorem g_X8_leastThatKeeps_66 (l : Launch) (E : wg_E) (k3 : Nat → Int32 → Int32 → Int32 → Int32 → wg_M → Option (Int32 × wg_M)) (x0 : Nat) (x1 : Int32) (x2 : Int32) (x3 : Int32) (x4 : Int32) (σ : wg_M) (z : Int32 × wg_M) (hx0 : wg_t Sc x0 = 10) (hk3 : ∀ (x0 : Nat) (x1 : Int32) (x2 : Int32) (x3 : Int32) (x4 : Int32) (σ : wg_M), wg_t Sc x0 = 10 → k3 x0 x1 x2 x3 x4 σ = some z → wg_G l E Sc "WornWigs$Told" cX8_leastThatKeeps 7 (some .int) rm_X8_leastThatKeeps (some z.1) z.2 3 [some (.ref x0), some (.int x1), some (.int x2), some (.int x3), some (.int x4), none, none] [] σ) (h : f_X8_leastThatKeeps_66 k3 x0 x1 x2 x3 x4 σ = some z) : wg_G l E Sc "WornWigs$Told" cX8_leastThatKeeps 7 (some .int) rm_X8_leastThatKeeps (some z.1) z.2 66 [some (.ref x0), some (.int x1), some (.int x2), some (.int x3), some (.int x4), none, none] [] σ := by
  refine wr_iconst (0 : Int32) (wg_da dt_X8_leastThatKeeps 39 rfl) (by decide) ?_
  exact wr_wk [true, true, true, true, true, false, false] (g_X8_leastThatKeeps_67 l E k3 x0 x1 x2 x3 x4 (0 : Int32) σ _ hx0 hk3 h)
set_option maxRecDepth 20000 in
theorem g_X8_leastThatKeeps_3 (l : Launch) (E : wg_E)  (z : Int32 × wg_M) : ∀ (n : Nat) (x0 : Nat) (x1 : Int32) (x2 : Int32) (x3 : Int32) (x4 : Int32) (σ : wg_M) (hx0 : wg_t Sc x0 = 10) (h : f_X8_leastThatKeeps_3  n x0 x1 x2 x3 x4 σ = some z), wg_G l E Sc "WornWigs$Told" cX8_leastThatKeeps 7 (some .int) rm_X8_leastThatKeeps (some z.1) z.2 3 [some (.ref x0), some (.int x1), some (.int x2), some (.int x3), some (.int x4), none, none] [] σ := by
  intro n
  induction n with
  | zero => intro x0 x1 x2 x3 x4 σ hx0 h; cases h
  | succ n ih =>
    intro x0 x1 x2 x3 x4 σ hx0 h
    refine wr_iload (wg_da dt_X8_leastThatKeeps 2 rfl) rfl ?_
    refine wr_aload_n (wg_da dt_X8_leastThatKeeps 3 rfl) rfl ?_
    refine wr_getI wf_X8_50 (wg_da dt_X8_leastThatKeeps 4 rfl) hx0 ?_
    refine wr_icmp_ge 83 (wg_da dt_X8_leastThatKeeps 5 rfl) (by decide) h (fun h => ?_) (fun h => ?_)
    · refine wr_iconst (-1 : Int32) (wg_da dt_X8_leastThatKeeps 47 rfl) (by decide) ?_
      exact wr_iret (wg_da dt_X8_leastThatKeeps 48 rfl) h
    · refine wr_iload_n (wg_da dt_X8_leastThatKeeps 6 rfl) rfl ?_
      refine wr_aload_n (wg_da dt_X8_leastThatKeeps 7 rfl) rfl ?_
      refine wr_getR wf_X8_30 (wg_da dt_X8_leastThatKeeps 8 rfl) hx0 ?_
      refine wr_iload (wg_da dt_X8_leastThatKeeps 9 rfl) rfl ?_
      refine wr_iald (wg_da dt_X8_leastThatKeeps 10 rfl) (wg_ty Sc_ok 8 8 0 hx0 rfl (by decide)).2 h (fun v1 h => ?_)
      refine wr_iadd (wg_da dt_X8_leastThatKeeps 11 rfl) ?_
      refine wr_let h (fun v2 h => ?_)
      refine wr_istore (wg_da dt_X8_leastThatKeeps 12 rfl) (by decide) ?_
      refine wr_iload_n (wg_da dt_X8_leastThatKeeps 13 rfl) rfl ?_
      refine wr_iload (wg_da dt_X8_leastThatKeeps 14 rfl) rfl ?_
      refine wr_ishr (wg_da dt_X8_leastThatKeeps 15 rfl) ?_
      refine wr_iconst (1 : Int32) (wg_da dt_X8_leastThatKeeps 16 rfl) (by decide) ?_
      refine wr_iand (wg_da dt_X8_leastThatKeeps 17 rfl) ?_
      refine wr_if_ne 66 (wg_da dt_X8_leastThatKeeps 18 rfl) (by decide) h (fun h => ?_) (fun h => ?_)
      · refine wr_iload (wg_da dt_X8_leastThatKeeps 19 rfl) rfl ?_
        refine wr_aload_n (wg_da dt_X8_leastThatKeeps 20 rfl) rfl ?_
        refine wr_getR wf_X8_33 (wg_da dt_X8_leastThatKeeps 21 rfl) hx0 ?_
        refine wr_iload (wg_da dt_X8_leastThatKeeps 22 rfl) rfl ?_
        refine wr_iald (wg_da dt_X8_leastThatKeeps 23 rfl) (wg_ty Sc_ok 8 9 0 hx0 rfl (by decide)).2 h (fun v3 h => ?_)
        refine wr_isub (wg_da dt_X8_leastThatKeeps 24 rfl) ?_
        refine wr_iload_n (wg_da dt_X8_leastThatKeeps 25 rfl) rfl ?_
        refine wr_icmp_gt 66 (wg_da dt_X8_leastThatKeeps 26 rfl) (by decide) h (fun h => ?_) (fun h => ?_)
        · exact wr_wk [true, true, true, true, true, false, false] (g_X8_leastThatKeeps_66 l E (f_X8_leastThatKeeps_3  n) x0 x1 x2 x3 x4 σ _ hx0 (fun x0 x1 x2 x3 x4 σ hx0 h => ih x0 x1 x2 x3 x4 σ hx0 h) h)
        · refine wr_aload_n (wg_da dt_X8_leastThatKeeps 27 rfl) rfl ?_
          refine wr_iload_n (wg_da dt_X8_leastThatKeeps 28 rfl) rfl ?_
          refine wr_iconst (1 : Int32) (wg_da dt_X8_leastThatKeeps 29 rfl) (by decide) ?_
          refine wr_iload (wg_da dt_X8_leastThatKeeps 30 rfl) rfl ?_
          refine wr_ishl (wg_da dt_X8_leastThatKeeps 31 rfl) ?_
          refine wr_ior (wg_da dt_X8_leastThatKeeps 32 rfl) ?_
          refine wr_iload (wg_da dt_X8_leastThatKeeps 33 rfl) rfl ?_
          refine wr_callVi [.int (x2 ||| ((1 : Int32) <<< (x4 &&& 31))), .int v2] [] (wg_da dt_X8_leastThatKeeps 34 rfl) ⟨wq_6_74, wq_6_63, wq_6_64⟩ hx0 ⟨rfl, by decide⟩ wy_X8_lateness (fun q hq => m_X8_lateness l E x0 (x2 ||| ((1 : Int32) <<< (x4 &&& 31))) v2 hx0 _ q hq) rfl rfl (Nat.le_of_ble_eq_true rfl) ⟨rfl, rfl, by decide, by decide⟩ h (fun v4 s5 h => ?_)
          refine wr_iload_n (wg_da dt_X8_leastThatKeeps 35 rfl) rfl ?_
          refine wr_icmp_gt 66 (wg_da dt_X8_leastThatKeeps 36 rfl) (by decide) h (fun h => ?_) (fun h => ?_)
          · exact wr_wk [true, true, true, true, true, false, false] (g_X8_leastThatKeeps_66 l E (f_X8_leastThatKeeps_3  n) x0 x1 x2 x3 x4 s5 _ hx0 (fun x0 x1 x2 x3 x4 σ hx0 h => ih x0 x1 x2 x3 x4 σ hx0 h) h)
          · refine wr_iconst (1 : Int32) (wg_da dt_X8_leastThatKeeps 37 rfl) (by decide) ?_
            refine wr_goto 67 (wg_da dt_X8_leastThatKeeps 38 rfl) (by decide) ?_
            exact wr_wk [true, true, true, true, true, false, false] (g_X8_leastThatKeeps_67 l E (f_X8_leastThatKeeps_3  n) x0 x1 x2 x3 x4 (1 : Int32) s5 _ hx0 (fun x0 x1 x2 x3 x4 σ hx0 h => ih x0 x1 x2 x3 x4 σ hx0 h) h)
      · exact wr_wk [true, true, true, true, true, false, false] (g_X8_leastThatKeeps_66 l E (f_X8_leastThatKeeps_3  n) x0 x1 x2 x3 x4 σ _ hx0 (fun x0 x1 x2 x3 x4 σ hx0 h => ih x0 x1 x2 x3 x4 σ hx0 h) h)
set_option maxRecDepth 20000 in
theorem g_X8_leastThatKeeps_e (l : Launch) (E : wg_E)  (x0 : Nat) (x1 : Int32) (x2 : Int32) (x3 : Int32) (σ : wg_M) (z : Int32 × wg_M) (hx0 : wg_t Sc x0 = 10) (h : f_X8_leastThatKeeps  x0 x1 x2 x3 σ = some z) : wg_G l E Sc "WornWigs$Told" cX8_leastThatKeeps 7 (some .int) rm_X8_leastThatKeeps (some z.1) z.2 0 [some (.ref x0), some (.int x1), some (.int x2), some (.int x3), none, none, none] [] σ := by
  refine wr_iconst (0 : Int32) (wg_da dt_X8_leastThatKeeps 0 rfl) (by decide) ?_
  refine wr_istore (wg_da dt_X8_leastThatKeeps 1 rfl) (by decide) ?_
  exact wr_wk [true, true, true, true, true, false, false] (g_X8_leastThatKeeps_3 l E  _  wg_N x0 x1 x2 x3 (0 : Int32) σ hx0 h)
theorem m_X8_leastThatKeeps (l : Launch) (E : wg_E) (x0 : Nat) (x1 : Int32) (x2 : Int32) (x3 : Int32) (hx0 : wg_t Sc x0 = 10) (σ : wg_M) (q : Int32 × wg_M) (h : f_X8_leastThatKeeps x0 x1 x2 x3 σ = some q) : wg_MG l E Sc yX8_leastThatKeeps cX8_leastThatKeeps 7 (some .int) rm_X8_leastThatKeeps [.ref x0, .int x1, .int x2, .int x3] σ (some q.1) q.2 :=
  wg_met [.ref x0, .int x1, .int x2, .int x3] (plainFor_of_name (by decide)) (Nat.le_of_ble_eq_true rfl) (g_X8_leastThatKeeps_e l E x0 x1 x2 x3 σ q hx0 h)
abbrev rm_X8_heardAt : Room := { frames := 3, cells := 0, slots := 0, locals := 76 }
def tb_X8_heardAt : List (Nat × Instr × Nat) := [(0, .aload_n 0, 1), (1, .iconst 0, 1), (2, .iconst 0, 1), (3, .invokevirtual 88, 3), (6, .istore_n 2, 1), (7, .iconst 0, 1), (8, .istore_n 3, 1), (9, .iconst 0, 1), (10, .istore 4, 2), (12, .iconst (-1), 1), (13, .istore 5, 2), (15, .iconst 0, 1), (16, .istore 6, 2), (18, .iload 6, 2), (20, .iload_n 1, 1), (21, .if_icmp .gt 55, 3), (24, .iload 6, 2), (26, .aload_n 0, 1), (27, .getfield 50, 3), (30, .if_icmp .ge 46, 3), (33, .aload_n 0, 1), (34, .iload_n 2, 1), (35, .iload_n 3, 1), (36, .iload 4, 2), (38, .invokevirtual 91, 3), (41, .istore 5, 2), (43, .iload 5, 2), (45, .iconst (-1), 1), (46, .if_icmp .ne 5, 3), (49, .iconst (-1), 1), (50, .ireturn, 1), (51, .iload_n 3, 1), (52, .iconst 1, 1), (53, .iload 5, 2), (55, .ishl, 1), (56, .ior, 1), (57, .istore_n 3, 1), (58, .iload 4, 2), (60, .aload_n 0, 1), (61, .getfield 30, 3), (64, .iload 5, 2), (66, .iaload, 1), (67, .iadd, 1), (68, .istore 4, 2), (70, .iinc 6 1, 3), (73, .goto (-55), 3), (76, .iload 5, 2), (78, .ireturn, 1)]
theorem dt_X8_heardAt : wg_dc cX8_heardAt tb_X8_heardAt := by unfold wg_dc; decide +kernel
def f_X8_heardAt_18  : Nat → Nat → Int32 → Int32 → Int32 → Int32 → Int32 → Int32 → wg_M → Option (Int32 × wg_M)
  | 0, _, _, _, _, _, _, _, _ => none
  | n + 1, x0, x1, x2, x3, x4, x5, x6, σ => if x1 < x6 then (some (x5, σ)) else (if (σ x0 10) ≤ x6 then (some (x5, σ)) else (wg_bd (f_X8_leastThatKeeps x0 x2 x3 x4 σ) (fun v1 s2 => if v1 = (-1 : Int32) then (some ((-1 : Int32), s2)) else (wg_let (x3 ||| ((1 : Int32) <<< (v1 &&& 31))) (fun v3 => wg_ga (wg_n Sc (wg_r Sc x0 8)) (s2 (wg_r Sc x0 8)) v1 (fun v4 => wg_let (x4 + v4) (fun v5 => wg_let (x6 + (1 : Int32)) (fun v6 => f_X8_heardAt_18  n x0 x1 x2 v3 v5 v1 v6 s2))))))))
def f_X8_heardAt  (x0 : Nat) (x1 : Int32) (σ : wg_M) : Option (Int32 × wg_M) := wg_bd (f_X8_lateness x0 (0 : Int32) (0 : Int32) σ) (fun v1 s2 => f_X8_heardAt_18  wg_N x0 x1 v1 (0 : Int32) (0 : Int32) (-1 : Int32) (0 : Int32) s2)
set_option maxRecDepth 20000 in
theorem g_X8_heardAt_18 (l : Launch) (E : wg_E)  (z : Int32 × wg_M) : ∀ (n : Nat) (x0 : Nat) (x1 : Int32) (x2 : Int32) (x3 : Int32) (x4 : Int32) (x5 : Int32) (x6 : Int32) (σ : wg_M) (hx0 : wg_t Sc x0 = 10) (h : f_X8_heardAt_18  n x0 x1 x2 x3 x4 x5 x6 σ = some z), wg_G l E Sc "WornWigs$Told" cX8_heardAt 7 (some .int) rm_X8_heardAt (some z.1) z.2 18 [some (.ref x0), some (.int x1), some (.int x2), some (.int x3), some (.int x4), some (.int x5), some (.int x6)] [] σ := by
  intro n
  induction n with
  | zero => intro x0 x1 x2 x3 x4 x5 x6 σ hx0 h; cases h
  | succ n ih =>
    intro x0 x1 x2 x3 x4 x5 x6 σ hx0 h
    refine wr_iload (wg_da dt_X8_heardAt 13 rfl) rfl ?_
    refine wr_iload_n (wg_da dt_X8_heardAt 14 rfl) rfl ?_
    refine wr_icmp_gt 76 (wg_da dt_X8_heardAt 15 rfl) (by decide) h (fun h => ?_) (fun h => ?_)
    · refine wr_iload (wg_da dt_X8_heardAt 46 rfl) rfl ?_
      exact wr_iret (wg_da dt_X8_heardAt 47 rfl) h
    · refine wr_iload (wg_da dt_X8_heardAt 16 rfl) rfl ?_
      refine wr_aload_n (wg_da dt_X8_heardAt 17 rfl) rfl ?_
      refine wr_getI wf_X8_50 (wg_da dt_X8_heardAt 18 rfl) hx0 ?_
      refine wr_icmp_ge 76 (wg_da dt_X8_heardAt 19 rfl) (by decide) h (fun h => ?_) (fun h => ?_)
      · refine wr_iload (wg_da dt_X8_heardAt 46 rfl) rfl ?_
        exact wr_iret (wg_da dt_X8_heardAt 47 rfl) h
      · refine wr_aload_n (wg_da dt_X8_heardAt 20 rfl) rfl ?_
        refine wr_iload_n (wg_da dt_X8_heardAt 21 rfl) rfl ?_
        refine wr_iload_n (wg_da dt_X8_heardAt 22 rfl) rfl ?_
        refine wr_iload (wg_da dt_X8_heardAt 23 rfl) rfl ?_
        refine wr_callVi [.int x2, .int x3, .int x4] [] (wg_da dt_X8_heardAt 24 rfl) ⟨wq_6_75, wq_6_77, wq_p4_2⟩ hx0 ⟨rfl, by decide⟩ wy_X8_leastThatKeeps (fun q hq => m_X8_leastThatKeeps l E x0 x2 x3 x4 hx0 _ q hq) rfl rfl (Nat.le_of_ble_eq_true rfl) ⟨rfl, rfl, by decide, by decide⟩ h (fun v1 s2 h => ?_)
        refine wr_istore (wg_da dt_X8_heardAt 25 rfl) (by decide) ?_
        refine wr_iload (wg_da dt_X8_heardAt 26 rfl) rfl ?_
        refine wr_iconst (-1 : Int32) (wg_da dt_X8_heardAt 27 rfl) (by decide) ?_
        refine wr_icmp_ne 51 (wg_da dt_X8_heardAt 28 rfl) (by decide) h (fun h => ?_) (fun h => ?_)
        · refine wr_iconst (-1 : Int32) (wg_da dt_X8_heardAt 29 rfl) (by decide) ?_
          exact wr_iret (wg_da dt_X8_heardAt 30 rfl) h
        · refine wr_iload_n (wg_da dt_X8_heardAt 31 rfl) rfl ?_
          refine wr_iconst (1 : Int32) (wg_da dt_X8_heardAt 32 rfl) (by decide) ?_
          refine wr_iload (wg_da dt_X8_heardAt 33 rfl) rfl ?_
          refine wr_ishl (wg_da dt_X8_heardAt 34 rfl) ?_
          refine wr_ior (wg_da dt_X8_heardAt 35 rfl) ?_
          refine wr_let h (fun v3 h => ?_)
          refine wr_istore_n (wg_da dt_X8_heardAt 36 rfl) (by decide) ?_
          refine wr_iload (wg_da dt_X8_heardAt 37 rfl) rfl ?_
          refine wr_aload_n (wg_da dt_X8_heardAt 38 rfl) rfl ?_
          refine wr_getR wf_X8_30 (wg_da dt_X8_heardAt 39 rfl) hx0 ?_
          refine wr_iload (wg_da dt_X8_heardAt 40 rfl) rfl ?_
          refine wr_iald (wg_da dt_X8_heardAt 41 rfl) (wg_ty Sc_ok 8 8 0 hx0 rfl (by decide)).2 h (fun v4 h => ?_)
          refine wr_iadd (wg_da dt_X8_heardAt 42 rfl) ?_
          refine wr_let h (fun v5 h => ?_)
          refine wr_istore (wg_da dt_X8_heardAt 43 rfl) (by decide) ?_
          refine wr_iinc (c0 := (1 : Int32)) (wg_da dt_X8_heardAt 44 rfl) rfl (by decide) (by decide) h (fun v6 h => ?_)
          refine wr_goto 18 (wg_da dt_X8_heardAt 45 rfl) (by decide) ?_
          exact wr_wk [true, true, true, true, true, true, true] (ih x0 x1 x2 v3 v5 v1 v6 s2 hx0 h)
set_option maxRecDepth 20000 in
theorem g_X8_heardAt_e (l : Launch) (E : wg_E)  (x0 : Nat) (x1 : Int32) (σ : wg_M) (z : Int32 × wg_M) (hx0 : wg_t Sc x0 = 10) (h : f_X8_heardAt  x0 x1 σ = some z) : wg_G l E Sc "WornWigs$Told" cX8_heardAt 7 (some .int) rm_X8_heardAt (some z.1) z.2 0 [some (.ref x0), some (.int x1), none, none, none, none, none] [] σ := by
  refine wr_aload_n (wg_da dt_X8_heardAt 0 rfl) rfl ?_
  refine wr_iconst (0 : Int32) (wg_da dt_X8_heardAt 1 rfl) (by decide) ?_
  refine wr_iconst (0 : Int32) (wg_da dt_X8_heardAt 2 rfl) (by decide) ?_
  refine wr_callVi [.int (0 : Int32), .int (0 : Int32)] [] (wg_da dt_X8_heardAt 3 rfl) ⟨wq_6_74, wq_6_63, wq_6_64⟩ hx0 ⟨rfl, by decide⟩ wy_X8_lateness (fun q hq => m_X8_lateness l E x0 (0 : Int32) (0 : Int32) hx0 _ q hq) rfl rfl (Nat.le_of_ble_eq_true rfl) ⟨rfl, rfl, by decide, by decide⟩ h (fun v1 s2 h => ?_)
  refine wr_istore_n (wg_da dt_X8_heardAt 4 rfl) (by decide) ?_
  refine wr_iconst (0 : Int32) (wg_da dt_X8_heardAt 5 rfl) (by decide) ?_
  refine wr_istore_n (wg_da dt_X8_heardAt 6 rfl) (by decide) ?_
  refine wr_iconst (0 : Int32) (wg_da dt_X8_heardAt 7 rfl) (by decide) ?_
  refine wr_istore (wg_da dt_X8_heardAt 8 rfl) (by decide) ?_
  refine wr_iconst (-1 : Int32) (wg_da dt_X8_heardAt 9 rfl) (by decide) ?_
  refine wr_istore (wg_da dt_X8_heardAt 10 rfl) (by decide) ?_
  refine wr_iconst (0 : Int32) (wg_da dt_X8_heardAt 11 rfl) (by decide) ?_
  refine wr_istore (wg_da dt_X8_heardAt 12 rfl) (by decide) ?_
  exact wr_wk [true, true, true, true, true, true, true] (g_X8_heardAt_18 l E  _  wg_N x0 x1 v1 (0 : Int32) (0 : Int32) (-1 : Int32) (0 : Int32) s2 hx0 h)
theorem m_X8_heardAt (l : Launch) (E : wg_E) (x0 : Nat) (x1 : Int32) (hx0 : wg_t Sc x0 = 10) (σ : wg_M) (q : Int32 × wg_M) (h : f_X8_heardAt x0 x1 σ = some q) : wg_MG l E Sc yX8_heardAt cX8_heardAt 7 (some .int) rm_X8_heardAt [.ref x0, .int x1] σ (some q.1) q.2 :=
  wg_met [.ref x0, .int x1] (plainFor_of_name (by decide)) (Nat.le_of_ble_eq_true rfl) (g_X8_heardAt_e l E x0 x1 σ q hx0 h)
abbrev rm_X9_hasRule : Room := { frames := 1, cells := 0, slots := 0, locals := 21 }
def tb_X9_hasRule : List (Nat × Instr × Nat) := [(0, .aload_n 0, 1), (1, .iload_n 1, 1), (2, .invokevirtual 44, 3), (5, .ifCond .eq 21, 3), (8, .iload_n 2, 1), (9, .ifCond .lt 17, 3), (12, .iload_n 2, 1), (13, .aload_n 0, 1), (14, .getfield 24, 3), (17, .iload_n 1, 1), (18, .iaload, 1), (19, .if_icmp .ge 7, 3), (22, .iconst 1, 1), (23, .goto 4, 3), (26, .iconst 0, 1), (27, .ireturn, 1)]
theorem dt_X9_hasRule : wg_dc cX9_hasRule tb_X9_hasRule := by unfold wg_dc; decide +kernel
def f_X9_hasRule  (x0 : Nat) (x1 : Int32) (x2 : Int32) (σ : wg_M) : Option (Int32 × wg_M) := wg_bd (f_X9_has x0 x1 σ) (fun v1 s2 => if v1 = 0 then (some ((0 : Int32), s2)) else (if x2 < 0 then (some ((0 : Int32), s2)) else (wg_ga (wg_n Sc (wg_r Sc x0 4)) (s2 (wg_r Sc x0 4)) x1 (fun v3 => if v3 ≤ x2 then (some ((0 : Int32), s2)) else (some ((1 : Int32), s2))))))
set_option maxRecDepth 20000 in
theorem g_X9_hasRule_e (l : Launch) (E : wg_E)  (x0 : Nat) (x1 : Int32) (x2 : Int32) (σ : wg_M) (z : Int32 × wg_M) (hx0 : wg_t Sc x0 = 11) (h : f_X9_hasRule  x0 x1 x2 σ = some z) : wg_G l E Sc "WornWigs$Wigs" cX9_hasRule 3 (some .boolean) rm_X9_hasRule (some z.1) z.2 0 [some (.ref x0), some (.int x1), some (.int x2)] [] σ := by
  refine wr_aload_n (wg_da dt_X9_hasRule 0 rfl) rfl ?_
  refine wr_iload_n (wg_da dt_X9_hasRule 1 rfl) rfl ?_
  refine wr_callVi [.int x1] [] (wg_da dt_X9_hasRule 2 rfl) ⟨wq_5_50, wq_3_76, wq_3_77⟩ hx0 ⟨rfl, by decide⟩ wy_X9_has (fun q hq => m_X9_has l E x0 x1 hx0 _ q hq) rfl rfl (Nat.le_of_ble_eq_true rfl) ⟨rfl, rfl, by decide, by decide⟩ h (fun v1 s2 h => ?_)
  refine wr_if_eq 26 (wg_da dt_X9_hasRule 3 rfl) (by decide) h (fun h => ?_) (fun h => ?_)
  · refine wr_iconst (0 : Int32) (wg_da dt_X9_hasRule 14 rfl) (by decide) ?_
    exact wr_zret0 (wg_da dt_X9_hasRule 15 rfl) h
  · refine wr_iload_n (wg_da dt_X9_hasRule 4 rfl) rfl ?_
    refine wr_if_lt 26 (wg_da dt_X9_hasRule 5 rfl) (by decide) h (fun h => ?_) (fun h => ?_)
    · refine wr_iconst (0 : Int32) (wg_da dt_X9_hasRule 14 rfl) (by decide) ?_
      exact wr_zret0 (wg_da dt_X9_hasRule 15 rfl) h
    · refine wr_iload_n (wg_da dt_X9_hasRule 6 rfl) rfl ?_
      refine wr_aload_n (wg_da dt_X9_hasRule 7 rfl) rfl ?_
      refine wr_getR wf_X9_24 (wg_da dt_X9_hasRule 8 rfl) hx0 ?_
      refine wr_iload_n (wg_da dt_X9_hasRule 9 rfl) rfl ?_
      refine wr_iald (wg_da dt_X9_hasRule 10 rfl) (wg_ty Sc_ok 9 4 0 hx0 rfl (by decide)).2 h (fun v3 h => ?_)
      refine wr_icmp_ge 26 (wg_da dt_X9_hasRule 11 rfl) (by decide) h (fun h => ?_) (fun h => ?_)
      · refine wr_iconst (0 : Int32) (wg_da dt_X9_hasRule 14 rfl) (by decide) ?_
        exact wr_zret0 (wg_da dt_X9_hasRule 15 rfl) h
      · refine wr_iconst (1 : Int32) (wg_da dt_X9_hasRule 12 rfl) (by decide) ?_
        refine wr_goto 27 (wg_da dt_X9_hasRule 13 rfl) (by decide) ?_
        exact wr_zret1 (wg_da dt_X9_hasRule 15 rfl) h
theorem m_X9_hasRule (l : Launch) (E : wg_E) (x0 : Nat) (x1 : Int32) (x2 : Int32) (hx0 : wg_t Sc x0 = 11) (σ : wg_M) (q : Int32 × wg_M) (h : f_X9_hasRule x0 x1 x2 σ = some q) : wg_MG l E Sc yX9_hasRule cX9_hasRule 3 (some .boolean) rm_X9_hasRule [.ref x0, .int x1, .int x2] σ (some q.1) q.2 :=
  wg_met [.ref x0, .int x1, .int x2] (plainFor_of_name (by decide)) (Nat.le_of_ble_eq_true rfl) (g_X9_hasRule_e l E x0 x1 x2 σ q hx0 h)

abbrev rm_X6_isLetter : Room := { frames := 1, cells := 0, slots := 0, locals := 22 }
def tb_X6_isLetter : List (Nat × Instr × Nat) := [(0, .iload_n 0, 1), (1, .bipush 97, 2), (3, .bipush 122, 2), (5, .invokestatic 84, 3), (8, .ifCond .ne 14, 3), (11, .iload_n 0, 1), (12, .bipush 65, 2), (14, .bipush 90, 2), (16, .invokestatic 84, 3), (19, .ifCond .eq 7, 3), (22, .iconst 1, 1), (23, .goto 4, 3), (26, .iconst 0, 1), (27, .ireturn, 1)]
theorem dt_X6_isLetter : wg_dc cX6_isLetter tb_X6_isLetter := by unfold wg_dc; decide +kernel
def f_X6_isLetter_22   (σ : wg_M) : Option (Int32 × wg_M) := some ((1 : Int32), σ)
def f_X6_isLetter  (x0 : Int32) (σ : wg_M) : Option (Int32 × wg_M) := wg_bd (f_X11_within x0 (97 : Int32) (122 : Int32) σ) (fun v1 s2 => if v1 = 0 then (wg_bd (f_X11_within x0 (65 : Int32) (90 : Int32) s2) (fun v3 s4 => if v3 = 0 then (some ((0 : Int32), s4)) else (f_X6_isLetter_22   s4))) else (f_X6_isLetter_22   s2))
set_option maxRecDepth 20000 in
theorem g_X6_isLetter_22 (l : Launch) (E : wg_E)   (σ : wg_M) (z : Int32 × wg_M)  (h : f_X6_isLetter_22   σ = some z) : wg_G l E Sc "WornWigs$Reader" cX6_isLetter 1 (some .boolean) rm_X6_isLetter (some z.1) z.2 22 [none] [] σ := by
  refine wr_iconst (1 : Int32) (wg_da dt_X6_isLetter 10 rfl) (by decide) ?_
  refine wr_goto 27 (wg_da dt_X6_isLetter 11 rfl) (by decide) ?_
  exact wr_zret1 (wg_da dt_X6_isLetter 13 rfl) h
set_option maxRecDepth 20000 in
theorem g_X6_isLetter_e (l : Launch) (E : wg_E)  (x0 : Int32) (σ : wg_M) (z : Int32 × wg_M)  (h : f_X6_isLetter  x0 σ = some z) : wg_G l E Sc "WornWigs$Reader" cX6_isLetter 1 (some .boolean) rm_X6_isLetter (some z.1) z.2 0 [some (.int x0)] [] σ := by
  refine wr_iload_n (wg_da dt_X6_isLetter 0 rfl) rfl ?_
  refine wr_bipush (97 : Int32) (wg_da dt_X6_isLetter 1 rfl) (by decide) ?_
  refine wr_bipush (122 : Int32) (wg_da dt_X6_isLetter 2 rfl) (by decide) ?_
  refine wr_callNi [.int x0, .int (97 : Int32), .int (122 : Int32)] [] (wg_da dt_X6_isLetter 3 rfl) ⟨List.mem_of_getElem? (i := 15) rfl, wq_3_49⟩ wy_X11_within (fun q hq => m_X11_within l E x0 (97 : Int32) (122 : Int32)  _ q hq) rfl rfl (Nat.le_of_ble_eq_true rfl) ⟨rfl, rfl, by decide, by decide⟩ h (fun v1 s2 h => ?_)
  refine wr_if_ne 22 (wg_da dt_X6_isLetter 4 rfl) (by decide) h (fun h => ?_) (fun h => ?_)
  · refine wr_iload_n (wg_da dt_X6_isLetter 5 rfl) rfl ?_
    refine wr_bipush (65 : Int32) (wg_da dt_X6_isLetter 6 rfl) (by decide) ?_
    refine wr_bipush (90 : Int32) (wg_da dt_X6_isLetter 7 rfl) (by decide) ?_
    refine wr_callNi [.int x0, .int (65 : Int32), .int (90 : Int32)] [] (wg_da dt_X6_isLetter 8 rfl) ⟨List.mem_of_getElem? (i := 15) rfl, wq_3_49⟩ wy_X11_within (fun q hq => m_X11_within l E x0 (65 : Int32) (90 : Int32)  _ q hq) rfl rfl (Nat.le_of_ble_eq_true rfl) ⟨rfl, rfl, by decide, by decide⟩ h (fun v3 s4 h => ?_)
    refine wr_if_eq 26 (wg_da dt_X6_isLetter 9 rfl) (by decide) h (fun h => ?_) (fun h => ?_)
    · refine wr_iconst (0 : Int32) (wg_da dt_X6_isLetter 12 rfl) (by decide) ?_
      exact wr_zret0 (wg_da dt_X6_isLetter 13 rfl) h
    · exact wr_wk [false] (g_X6_isLetter_22 l E   s4 _   h)
  · exact wr_wk [false] (g_X6_isLetter_22 l E   s2 _   h)
theorem m_X6_isLetter (l : Launch) (E : wg_E) (x0 : Int32)  (σ : wg_M) (q : Int32 × wg_M) (h : f_X6_isLetter x0 σ = some q) : wg_MG l E Sc yX6_isLetter cX6_isLetter 1 (some .boolean) rm_X6_isLetter [.int x0] σ (some q.1) q.2 :=
  wg_met [.int x0] (plainFor_of_name (by decide)) (Nat.le_of_ble_eq_true rfl) (g_X6_isLetter_e l E x0 σ q  h)
abbrev rm_X6_addToken : Room := { frames := 0, cells := 0, slots := 0, locals := 0 }
def tb_X6_addToken : List (Nat × Instr × Nat) := [(0, .aload_n 0, 1), (1, .getfield 60, 3), (4, .aload_n 0, 1), (5, .getfield 15, 3), (8, .arraylength, 1), (9, .if_icmp .ge 43, 3), (12, .aload_n 0, 1), (13, .getfield 15, 3), (16, .aload_n 0, 1), (17, .getfield 60, 3), (20, .iload_n 1, 1), (21, .iastore, 1), (22, .aload_n 0, 1), (23, .getfield 18, 3), (26, .aload_n 0, 1), (27, .getfield 60, 3), (30, .iload_n 2, 1), (31, .iastore, 1), (32, .aload_n 0, 1), (33, .getfield 21, 3), (36, .aload_n 0, 1), (37, .getfield 60, 3), (40, .iload_n 3, 1), (41, .iastore, 1), (42, .aload_n 0, 1), (43, .dup, 1), (44, .getfield 60, 3), (47, .iconst 1, 1), (48, .iadd, 1), (49, .putfield 60, 3), (52, .return_, 1)]
theorem dt_X6_addToken : wg_dc cX6_addToken tb_X6_addToken := by unfold wg_dc; decide +kernel
def f_X6_addToken  (x0 : Nat) (x1 : Int32) (x2 : Int32) (x3 : Int32) (σ : wg_M) : Option (Int32 × wg_M) := if (Int32.ofNat (wg_n Sc (wg_r Sc x0 3))) ≤ (σ x0 6) then (some (0, σ)) else (wg_sa (wg_n Sc (wg_r Sc x0 3)) σ (wg_r Sc x0 3) (σ x0 6) x1 (fun s1 => wg_sa (wg_n Sc (wg_r Sc x0 4)) s1 (wg_r Sc x0 4) (s1 x0 6) x2 (fun s2 => wg_sa (wg_n Sc (wg_r Sc x0 5)) s2 (wg_r Sc x0 5) (s2 x0 6) x3 (fun s3 => wg_st s3 x0 6 ((s3 x0 6) + (1 : Int32)) (fun s4 => some (0, s4))))))
set_option maxRecDepth 20000 in
theorem g_X6_addToken_e (l : Launch) (E : wg_E)  (x0 : Nat) (x1 : Int32) (x2 : Int32) (x3 : Int32) (σ : wg_M) (z : Int32 × wg_M) (hx0 : wg_t Sc x0 = 8) (h : f_X6_addToken  x0 x1 x2 x3 σ = some z) : wg_G l E Sc "WornWigs$Reader" cX6_addToken 4 none rm_X6_addToken none z.2 0 [some (.ref x0), some (.int x1), some (.int x2), some (.int x3)] [] σ := by
  refine wr_aload_n (wg_da dt_X6_addToken 0 rfl) rfl ?_
  refine wr_getI wf_X6_60 (wg_da dt_X6_addToken 1 rfl) hx0 ?_
  refine wr_aload_n (wg_da dt_X6_addToken 2 rfl) rfl ?_
  refine wr_getR wf_X6_15 (wg_da dt_X6_addToken 3 rfl) hx0 ?_
  refine wr_alen (Int32.ofNat (wg_n Sc (wg_r Sc x0 3))) (wg_da dt_X6_addToken 4 rfl) (wg_ty Sc_ok 6 3 0 hx0 rfl (by decide)).2 rfl ?_
  refine wr_icmp_ge 52 (wg_da dt_X6_addToken 5 rfl) (by decide) h (fun h => ?_) (fun h => ?_)
  · exact wr_vret (wg_da dt_X6_addToken 30 rfl) h
  · refine wr_aload_n (wg_da dt_X6_addToken 6 rfl) rfl ?_
    refine wr_getR wf_X6_15 (wg_da dt_X6_addToken 7 rfl) hx0 ?_
    refine wr_aload_n (wg_da dt_X6_addToken 8 rfl) rfl ?_
    refine wr_getI wf_X6_60 (wg_da dt_X6_addToken 9 rfl) hx0 ?_
    refine wr_iload_n (wg_da dt_X6_addToken 10 rfl) rfl ?_
    refine wr_iast (wg_da dt_X6_addToken 11 rfl) (wg_ty Sc_ok 6 3 0 hx0 rfl (by decide)).2 h (fun s1 h => ?_)
    refine wr_aload_n (wg_da dt_X6_addToken 12 rfl) rfl ?_
    refine wr_getR wf_X6_18 (wg_da dt_X6_addToken 13 rfl) hx0 ?_
    refine wr_aload_n (wg_da dt_X6_addToken 14 rfl) rfl ?_
    refine wr_getI wf_X6_60 (wg_da dt_X6_addToken 15 rfl) hx0 ?_
    refine wr_iload_n (wg_da dt_X6_addToken 16 rfl) rfl ?_
    refine wr_iast (wg_da dt_X6_addToken 17 rfl) (wg_ty Sc_ok 6 4 0 hx0 rfl (by decide)).2 h (fun s2 h => ?_)
    refine wr_aload_n (wg_da dt_X6_addToken 18 rfl) rfl ?_
    refine wr_getR wf_X6_21 (wg_da dt_X6_addToken 19 rfl) hx0 ?_
    refine wr_aload_n (wg_da dt_X6_addToken 20 rfl) rfl ?_
    refine wr_getI wf_X6_60 (wg_da dt_X6_addToken 21 rfl) hx0 ?_
    refine wr_iload_n (wg_da dt_X6_addToken 22 rfl) rfl ?_
    refine wr_iast (wg_da dt_X6_addToken 23 rfl) (wg_ty Sc_ok 6 5 0 hx0 rfl (by decide)).2 h (fun s3 h => ?_)
    refine wr_aload_n (wg_da dt_X6_addToken 24 rfl) rfl ?_
    refine wr_dup (wg_da dt_X6_addToken 25 rfl) ?_
    refine wr_getI wf_X6_60 (wg_da dt_X6_addToken 26 rfl) hx0 ?_
    refine wr_iconst (1 : Int32) (wg_da dt_X6_addToken 27 rfl) (by decide) ?_
    refine wr_iadd (wg_da dt_X6_addToken 28 rfl) ?_
    refine wr_putI wfp_X6_60 (wg_da dt_X6_addToken 29 rfl) hx0 h (fun s4 h => ?_)
    exact wr_vret (wg_da dt_X6_addToken 30 rfl) h
theorem m_X6_addToken (l : Launch) (E : wg_E) (x0 : Nat) (x1 : Int32) (x2 : Int32) (x3 : Int32) (hx0 : wg_t Sc x0 = 8) (σ : wg_M) (q : Int32 × wg_M) (h : f_X6_addToken x0 x1 x2 x3 σ = some q) : wg_MG l E Sc yX6_addToken cX6_addToken 4 none rm_X6_addToken [.ref x0, .int x1, .int x2, .int x3] σ none q.2 :=
  wg_met [.ref x0, .int x1, .int x2, .int x3] (plainFor_of_name (by decide)) (Nat.le_of_ble_eq_true rfl) (g_X6_addToken_e l E x0 x1 x2 x3 σ q hx0 h)
abbrev rm_X6_isDigit : Room := { frames := 1, cells := 0, slots := 0, locals := 22 }
def tb_X6_isDigit : List (Nat × Instr × Nat) := [(0, .iload_n 0, 1), (1, .bipush 48, 2), (3, .bipush 57, 2), (5, .invokestatic 84, 3), (8, .ireturn, 1)]
theorem dt_X6_isDigit : wg_dc cX6_isDigit tb_X6_isDigit := by unfold wg_dc; decide +kernel
def f_X6_isDigit  (x0 : Int32) (σ : wg_M) : Option (Int32 × wg_M) := wg_bd (f_X11_within x0 (48 : Int32) (57 : Int32) σ) (fun v1 s2 => wg_bz v1 (some (v1, s2)))
set_option maxRecDepth 20000 in
theorem g_X6_isDigit_e (l : Launch) (E : wg_E)  (x0 : Int32) (σ : wg_M) (z : Int32 × wg_M)  (h : f_X6_isDigit  x0 σ = some z) : wg_G l E Sc "WornWigs$Reader" cX6_isDigit 1 (some .boolean) rm_X6_isDigit (some z.1) z.2 0 [some (.int x0)] [] σ := by
  refine wr_iload_n (wg_da dt_X6_isDigit 0 rfl) rfl ?_
  refine wr_bipush (48 : Int32) (wg_da dt_X6_isDigit 1 rfl) (by decide) ?_
  refine wr_bipush (57 : Int32) (wg_da dt_X6_isDigit 2 rfl) (by decide) ?_
  refine wr_callNi [.int x0, .int (48 : Int32), .int (57 : Int32)] [] (wg_da dt_X6_isDigit 3 rfl) ⟨List.mem_of_getElem? (i := 15) rfl, wq_3_49⟩ wy_X11_within (fun q hq => m_X11_within l E x0 (48 : Int32) (57 : Int32)  _ q hq) rfl rfl (Nat.le_of_ble_eq_true rfl) ⟨rfl, rfl, by decide, by decide⟩ h (fun v1 s2 h => ?_)
  exact wr_zret (wg_da dt_X6_isDigit 4 rfl) h
theorem m_X6_isDigit (l : Launch) (E : wg_E) (x0 : Int32)  (σ : wg_M) (q : Int32 × wg_M) (h : f_X6_isDigit x0 σ = some q) : wg_MG l E Sc yX6_isDigit cX6_isDigit 1 (some .boolean) rm_X6_isDigit [.int x0] σ (some q.1) q.2 :=
  wg_met [.int x0] (plainFor_of_name (by decide)) (Nat.le_of_ble_eq_true rfl) (g_X6_isDigit_e l E x0 σ q  h)
abbrev rm_X6_numberAt : Room := { frames := 0, cells := 0, slots := 0, locals := 0 }
def tb_X6_numberAt : List (Nat × Instr × Nat) := [(0, .iconst 0, 1), (1, .istore_n 3, 1), (2, .iload_n 1, 1), (3, .istore 4, 2), (5, .iload 4, 2), (7, .iload_n 2, 1), (8, .if_icmp .ge 25, 3), (11, .iload_n 3, 1), (12, .bipush 10, 2), (14, .imul, 1), (15, .aload_n 0, 1), (16, .getfield 9, 3), (19, .iload 4, 2), (21, .iaload, 1), (22, .iadd, 1), (23, .bipush 48, 2), (25, .isub, 1), (26, .istore_n 3, 1), (27, .iinc 4 1, 3), (30, .goto (-25), 3), (33, .iload_n 3, 1), (34, .ireturn, 1)]
theorem dt_X6_numberAt : wg_dc cX6_numberAt tb_X6_numberAt := by unfold wg_dc; decide +kernel
def f_X6_numberAt_5  : Nat → Nat → Int32 → Int32 → Int32 → wg_M → Option (Int32 × wg_M)
  | 0, _, _, _, _, _ => none
  | n + 1, x0, x2, x3, x4, σ => if x2 ≤ x4 then (some (x3, σ)) else (wg_ga (wg_n Sc (wg_r Sc x0 1)) (σ (wg_r Sc x0 1)) x4 (fun v1 => wg_let (((x3 * (10 : Int32)) + v1) - (48 : Int32)) (fun v2 => wg_let (x4 + (1 : Int32)) (fun v3 => f_X6_numberAt_5  n x0 x2 v2 v3 σ))))
def f_X6_numberAt  (x0 : Nat) (x1 : Int32) (x2 : Int32) (σ : wg_M) : Option (Int32 × wg_M) := f_X6_numberAt_5  wg_N x0 x2 (0 : Int32) x1 σ
set_option maxRecDepth 20000 in
theorem g_X6_numberAt_5 (l : Launch) (E : wg_E)  (z : Int32 × wg_M) : ∀ (n : Nat) (x0 : Nat) (x2 : Int32) (x3 : Int32) (x4 : Int32) (σ : wg_M) (hx0 : wg_t Sc x0 = 8) (h : f_X6_numberAt_5  n x0 x2 x3 x4 σ = some z), wg_G l E Sc "WornWigs$Reader" cX6_numberAt 5 (some .int) rm_X6_numberAt (some z.1) z.2 5 [some (.ref x0), none, some (.int x2), some (.int x3), some (.int x4)] [] σ := by
  intro n
  induction n with
  | zero => intro x0 x2 x3 x4 σ hx0 h; cases h
  | succ n ih =>
    intro x0 x2 x3 x4 σ hx0 h
    refine wr_iload (wg_da dt_X6_numberAt 4 rfl) rfl ?_
    refine wr_iload_n (wg_da dt_X6_numberAt 5 rfl) rfl ?_
    refine wr_icmp_ge 33 (wg_da dt_X6_numberAt 6 rfl) (by decide) h (fun h => ?_) (fun h => ?_)
    · refine wr_iload_n (wg_da dt_X6_numberAt 20 rfl) rfl ?_
      exact wr_iret (wg_da dt_X6_numberAt 21 rfl) h
    · refine wr_iload_n (wg_da dt_X6_numberAt 7 rfl) rfl ?_
      refine wr_bipush (10 : Int32) (wg_da dt_X6_numberAt 8 rfl) (by decide) ?_
      refine wr_imul (wg_da dt_X6_numberAt 9 rfl) ?_
      refine wr_aload_n (wg_da dt_X6_numberAt 10 rfl) rfl ?_
      refine wr_getR wf_X6_9 (wg_da dt_X6_numberAt 11 rfl) hx0 ?_
      refine wr_iload (wg_da dt_X6_numberAt 12 rfl) rfl ?_
      refine wr_iald (wg_da dt_X6_numberAt 13 rfl) (wg_ty Sc_ok 6 1 0 hx0 rfl (by decide)).2 h (fun v1 h => ?_)
      refine wr_iadd (wg_da dt_X6_numberAt 14 rfl) ?_
      refine wr_bipush (48 : Int32) (wg_da dt_X6_numberAt 15 rfl) (by decide) ?_
      refine wr_isub (wg_da dt_X6_numberAt 16 rfl) ?_
      refine wr_let h (fun v2 h => ?_)
      refine wr_istore_n (wg_da dt_X6_numberAt 17 rfl) (by decide) ?_
      refine wr_iinc (c0 := (1 : Int32)) (wg_da dt_X6_numberAt 18 rfl) rfl (by decide) (by decide) h (fun v3 h => ?_)
      refine wr_goto 5 (wg_da dt_X6_numberAt 19 rfl) (by decide) ?_
      exact wr_wk [true, false, true, true, true] (ih x0 x2 v2 v3 σ hx0 h)
set_option maxRecDepth 20000 in
theorem g_X6_numberAt_e (l : Launch) (E : wg_E)  (x0 : Nat) (x1 : Int32) (x2 : Int32) (σ : wg_M) (z : Int32 × wg_M) (hx0 : wg_t Sc x0 = 8) (h : f_X6_numberAt  x0 x1 x2 σ = some z) : wg_G l E Sc "WornWigs$Reader" cX6_numberAt 5 (some .int) rm_X6_numberAt (some z.1) z.2 0 [some (.ref x0), some (.int x1), some (.int x2), none, none] [] σ := by
  refine wr_iconst (0 : Int32) (wg_da dt_X6_numberAt 0 rfl) (by decide) ?_
  refine wr_istore_n (wg_da dt_X6_numberAt 1 rfl) (by decide) ?_
  refine wr_iload_n (wg_da dt_X6_numberAt 2 rfl) rfl ?_
  refine wr_istore (wg_da dt_X6_numberAt 3 rfl) (by decide) ?_
  exact wr_wk [true, false, true, true, true] (g_X6_numberAt_5 l E  _  wg_N x0 x2 (0 : Int32) x1 σ hx0 h)
theorem m_X6_numberAt (l : Launch) (E : wg_E) (x0 : Nat) (x1 : Int32) (x2 : Int32) (hx0 : wg_t Sc x0 = 8) (σ : wg_M) (q : Int32 × wg_M) (h : f_X6_numberAt x0 x1 x2 σ = some q) : wg_MG l E Sc yX6_numberAt cX6_numberAt 5 (some .int) rm_X6_numberAt [.ref x0, .int x1, .int x2] σ (some q.1) q.2 :=
  wg_met [.ref x0, .int x1, .int x2] (plainFor_of_name (by decide)) (Nat.le_of_ble_eq_true rfl) (g_X6_numberAt_e l E x0 x1 x2 σ q hx0 h)
abbrev rm_X6_isSign : Room := { frames := 0, cells := 0, slots := 0, locals := 0 }
def tb_X6_isSign : List (Nat × Instr × Nat) := [(0, .iload_n 0, 1), (1, .tableswitch 109 40 62 #[107, 107, 107, 107, 109, 107, 109, 107, 109, 109, 109, 109, 109, 109, 109, 109, 109, 109, 109, 107, 107, 107, 107], 107), (108, .iconst 1, 1), (109, .ireturn, 1), (110, .iconst 0, 1), (111, .ireturn, 1)]
theorem dt_X6_isSign : wg_dc cX6_isSign tb_X6_isSign := by unfold wg_dc; decide +kernel
def f_X6_isSign  (x0 : Int32) (σ : wg_M) : Option (Int32 × wg_M) := wg_sw x0 (40) [some ((1 : Int32), σ), some ((1 : Int32), σ), some ((1 : Int32), σ), some ((1 : Int32), σ), some ((0 : Int32), σ), some ((1 : Int32), σ), some ((0 : Int32), σ), some ((1 : Int32), σ), some ((0 : Int32), σ), some ((0 : Int32), σ), some ((0 : Int32), σ), some ((0 : Int32), σ), some ((0 : Int32), σ), some ((0 : Int32), σ), some ((0 : Int32), σ), some ((0 : Int32), σ), some ((0 : Int32), σ), some ((0 : Int32), σ), some ((0 : Int32), σ), some ((1 : Int32), σ), some ((1 : Int32), σ), some ((1 : Int32), σ), some ((1 : Int32), σ)] (some ((0 : Int32), σ))
set_option maxRecDepth 20000 in
theorem g_X6_isSign_e (l : Launch) (E : wg_E)  (x0 : Int32) (σ : wg_M) (z : Int32 × wg_M)  (h : f_X6_isSign  x0 σ = some z) : wg_G l E Sc "WornWigs$Reader" cX6_isSign 1 (some .boolean) rm_X6_isSign (some z.1) z.2 0 [some (.int x0)] [] σ := by
  refine wr_iload_n (wg_da dt_X6_isSign 0 rfl) rfl ?_
  refine wr_tsw [108, 108, 108, 108, 110, 108, 110, 108, 110, 110, 110, 110, 110, 110, 110, 110, 110, 110, 110, 108, 108, 108, 108] 110 (wg_da dt_X6_isSign 1 rfl) rfl rfl (by decide) (by decide) h (wg_all_c (fun h => ?_) (wg_all_c (fun h => ?_) (wg_all_c (fun h => ?_) (wg_all_c (fun h => ?_) (wg_all_c (fun h => ?_) (wg_all_c (fun h => ?_) (wg_all_c (fun h => ?_) (wg_all_c (fun h => ?_) (wg_all_c (fun h => ?_) (wg_all_c (fun h => ?_) (wg_all_c (fun h => ?_) (wg_all_c (fun h => ?_) (wg_all_c (fun h => ?_) (wg_all_c (fun h => ?_) (wg_all_c (fun h => ?_) (wg_all_c (fun h => ?_) (wg_all_c (fun h => ?_) (wg_all_c (fun h => ?_) (wg_all_c (fun h => ?_) (wg_all_c (fun h => ?_) (wg_all_c (fun h => ?_) (wg_all_c (fun h => ?_) (wg_all_c (fun h => ?_) (wg_all_n)))))))))))))))))))))))) (fun h => ?_)
  · refine wr_iconst (1 : Int32) (wg_da dt_X6_isSign 2 rfl) (by decide) ?_
    exact wr_zret1 (wg_da dt_X6_isSign 3 rfl) h
  · refine wr_iconst (1 : Int32) (wg_da dt_X6_isSign 2 rfl) (by decide) ?_
    exact wr_zret1 (wg_da dt_X6_isSign 3 rfl) h
  · refine wr_iconst (1 : Int32) (wg_da dt_X6_isSign 2 rfl) (by decide) ?_
    exact wr_zret1 (wg_da dt_X6_isSign 3 rfl) h
  · refine wr_iconst (1 : Int32) (wg_da dt_X6_isSign 2 rfl) (by decide) ?_
    exact wr_zret1 (wg_da dt_X6_isSign 3 rfl) h
  · refine wr_iconst (0 : Int32) (wg_da dt_X6_isSign 4 rfl) (by decide) ?_
    exact wr_zret0 (wg_da dt_X6_isSign 5 rfl) h
  · refine wr_iconst (1 : Int32) (wg_da dt_X6_isSign 2 rfl) (by decide) ?_
    exact wr_zret1 (wg_da dt_X6_isSign 3 rfl) h
  · refine wr_iconst (0 : Int32) (wg_da dt_X6_isSign 4 rfl) (by decide) ?_
    exact wr_zret0 (wg_da dt_X6_isSign 5 rfl) h
  · refine wr_iconst (1 : Int32) (wg_da dt_X6_isSign 2 rfl) (by decide) ?_
    exact wr_zret1 (wg_da dt_X6_isSign 3 rfl) h
  · refine wr_iconst (0 : Int32) (wg_da dt_X6_isSign 4 rfl) (by decide) ?_
    exact wr_zret0 (wg_da dt_X6_isSign 5 rfl) h
  · refine wr_iconst (0 : Int32) (wg_da dt_X6_isSign 4 rfl) (by decide) ?_
    exact wr_zret0 (wg_da dt_X6_isSign 5 rfl) h
  · refine wr_iconst (0 : Int32) (wg_da dt_X6_isSign 4 rfl) (by decide) ?_
    exact wr_zret0 (wg_da dt_X6_isSign 5 rfl) h
  · refine wr_iconst (0 : Int32) (wg_da dt_X6_isSign 4 rfl) (by decide) ?_
    exact wr_zret0 (wg_da dt_X6_isSign 5 rfl) h
  · refine wr_iconst (0 : Int32) (wg_da dt_X6_isSign 4 rfl) (by decide) ?_
    exact wr_zret0 (wg_da dt_X6_isSign 5 rfl) h
  · refine wr_iconst (0 : Int32) (wg_da dt_X6_isSign 4 rfl) (by decide) ?_
    exact wr_zret0 (wg_da dt_X6_isSign 5 rfl) h
  · refine wr_iconst (0 : Int32) (wg_da dt_X6_isSign 4 rfl) (by decide) ?_
    exact wr_zret0 (wg_da dt_X6_isSign 5 rfl) h
  · refine wr_iconst (0 : Int32) (wg_da dt_X6_isSign 4 rfl) (by decide) ?_
    exact wr_zret0 (wg_da dt_X6_isSign 5 rfl) h
  · refine wr_iconst (0 : Int32) (wg_da dt_X6_isSign 4 rfl) (by decide) ?_
    exact wr_zret0 (wg_da dt_X6_isSign 5 rfl) h
  · refine wr_iconst (0 : Int32) (wg_da dt_X6_isSign 4 rfl) (by decide) ?_
    exact wr_zret0 (wg_da dt_X6_isSign 5 rfl) h
  · refine wr_iconst (0 : Int32) (wg_da dt_X6_isSign 4 rfl) (by decide) ?_
    exact wr_zret0 (wg_da dt_X6_isSign 5 rfl) h
  · refine wr_iconst (1 : Int32) (wg_da dt_X6_isSign 2 rfl) (by decide) ?_
    exact wr_zret1 (wg_da dt_X6_isSign 3 rfl) h
  · refine wr_iconst (1 : Int32) (wg_da dt_X6_isSign 2 rfl) (by decide) ?_
    exact wr_zret1 (wg_da dt_X6_isSign 3 rfl) h
  · refine wr_iconst (1 : Int32) (wg_da dt_X6_isSign 2 rfl) (by decide) ?_
    exact wr_zret1 (wg_da dt_X6_isSign 3 rfl) h
  · refine wr_iconst (1 : Int32) (wg_da dt_X6_isSign 2 rfl) (by decide) ?_
    exact wr_zret1 (wg_da dt_X6_isSign 3 rfl) h
  · refine wr_iconst (0 : Int32) (wg_da dt_X6_isSign 4 rfl) (by decide) ?_
    exact wr_zret0 (wg_da dt_X6_isSign 5 rfl) h
theorem m_X6_isSign (l : Launch) (E : wg_E) (x0 : Int32)  (σ : wg_M) (q : Int32 × wg_M) (h : f_X6_isSign x0 σ = some q) : wg_MG l E Sc yX6_isSign cX6_isSign 1 (some .boolean) rm_X6_isSign [.int x0] σ (some q.1) q.2 :=
  wg_met [.int x0] (plainFor_of_name (by decide)) (Nat.le_of_ble_eq_true rfl) (g_X6_isSign_e l E x0 σ q  h)
abbrev rm_X6_fail : Room := { frames := 0, cells := 0, slots := 0, locals := 0 }
def tb_X6_fail : List (Nat × Instr × Nat) := [(0, .aload_n 0, 1), (1, .iload_n 1, 1), (2, .putfield 54, 3), (5, .aload_n 0, 1), (6, .aload_n 0, 1), (7, .getfield 21, 3), (10, .aload_n 0, 1), (11, .getfield 57, 3), (14, .iaload, 1), (15, .putfield 24, 3), (18, .iconst 0, 1), (19, .ireturn, 1)]
theorem dt_X6_fail : wg_dc cX6_fail tb_X6_fail := by unfold wg_dc; decide +kernel
def f_X6_fail  (x0 : Nat) (x1 : Int32) (σ : wg_M) : Option (Int32 × wg_M) := wg_st σ x0 8 x1 (fun s1 => wg_ga (wg_n Sc (wg_r Sc x0 5)) (s1 (wg_r Sc x0 5)) (s1 x0 7) (fun v2 => wg_st s1 x0 9 v2 (fun s3 => some ((0 : Int32), s3))))
set_option maxRecDepth 20000 in
theorem g_X6_fail_e (l : Launch) (E : wg_E)  (x0 : Nat) (x1 : Int32) (σ : wg_M) (z : Int32 × wg_M) (hx0 : wg_t Sc x0 = 8) (h : f_X6_fail  x0 x1 σ = some z) : wg_G l E Sc "WornWigs$Reader" cX6_fail 2 (some .boolean) rm_X6_fail (some z.1) z.2 0 [some (.ref x0), some (.int x1)] [] σ := by
  refine wr_aload_n (wg_da dt_X6_fail 0 rfl) rfl ?_
  refine wr_iload_n (wg_da dt_X6_fail 1 rfl) rfl ?_
  refine wr_putI wfp_X6_54 (wg_da dt_X6_fail 2 rfl) hx0 h (fun s1 h => ?_)
  refine wr_aload_n (wg_da dt_X6_fail 3 rfl) rfl ?_
  refine wr_aload_n (wg_da dt_X6_fail 4 rfl) rfl ?_
  refine wr_getR wf_X6_21 (wg_da dt_X6_fail 5 rfl) hx0 ?_
  refine wr_aload_n (wg_da dt_X6_fail 6 rfl) rfl ?_
  refine wr_getI wf_X6_57 (wg_da dt_X6_fail 7 rfl) hx0 ?_
  refine wr_iald (wg_da dt_X6_fail 8 rfl) (wg_ty Sc_ok 6 5 0 hx0 rfl (by decide)).2 h (fun v2 h => ?_)
  refine wr_putI wfp_X6_24 (wg_da dt_X6_fail 9 rfl) hx0 h (fun s3 h => ?_)
  refine wr_iconst (0 : Int32) (wg_da dt_X6_fail 10 rfl) (by decide) ?_
  exact wr_zret0 (wg_da dt_X6_fail 11 rfl) h
theorem m_X6_fail (l : Launch) (E : wg_E) (x0 : Nat) (x1 : Int32) (hx0 : wg_t Sc x0 = 8) (σ : wg_M) (q : Int32 × wg_M) (h : f_X6_fail x0 x1 σ = some q) : wg_MG l E Sc yX6_fail cX6_fail 2 (some .boolean) rm_X6_fail [.ref x0, .int x1] σ (some q.1) q.2 :=
  wg_met [.ref x0, .int x1] (plainFor_of_name (by decide)) (Nat.le_of_ble_eq_true rfl) (g_X6_fail_e l E x0 x1 σ q hx0 h)
abbrev rm_X6_expect : Room := { frames := 1, cells := 0, slots := 0, locals := 21 }
def tb_X6_expect : List (Nat × Instr × Nat) := [(0, .aload_n 0, 1), (1, .getfield 15, 3), (4, .aload_n 0, 1), (5, .getfield 57, 3), (8, .iaload, 1), (9, .iload_n 1, 1), (10, .if_icmp .eq 9, 3), (13, .aload_n 0, 1), (14, .iconst 1, 1), (15, .invokevirtual 102, 3), (18, .ireturn, 1), (19, .aload_n 0, 1), (20, .dup, 1), (21, .getfield 57, 3), (24, .iconst 1, 1), (25, .iadd, 1), (26, .putfield 57, 3), (29, .iconst 1, 1), (30, .ireturn, 1)]
theorem dt_X6_expect : wg_dc cX6_expect tb_X6_expect := by unfold wg_dc; decide +kernel
def f_X6_expect  (x0 : Nat) (x1 : Int32) (σ : wg_M) : Option (Int32 × wg_M) := wg_ga (wg_n Sc (wg_r Sc x0 3)) (σ (wg_r Sc x0 3)) (σ x0 7) (fun v1 => if v1 = x1 then (wg_st σ x0 7 ((σ x0 7) + (1 : Int32)) (fun s2 => some ((1 : Int32), s2))) else (wg_bd (f_X6_fail x0 (1 : Int32) σ) (fun v3 s4 => wg_bz v3 (some (v3, s4)))))
set_option maxRecDepth 20000 in
theorem g_X6_expect_e (l : Launch) (E : wg_E)  (x0 : Nat) (x1 : Int32) (σ : wg_M) (z : Int32 × wg_M) (hx0 : wg_t Sc x0 = 8) (h : f_X6_expect  x0 x1 σ = some z) : wg_G l E Sc "WornWigs$Reader" cX6_expect 2 (some .boolean) rm_X6_expect (some z.1) z.2 0 [some (.ref x0), some (.int x1)] [] σ := by
  refine wr_aload_n (wg_da dt_X6_expect 0 rfl) rfl ?_
  refine wr_getR wf_X6_15 (wg_da dt_X6_expect 1 rfl) hx0 ?_
  refine wr_aload_n (wg_da dt_X6_expect 2 rfl) rfl ?_
  refine wr_getI wf_X6_57 (wg_da dt_X6_expect 3 rfl) hx0 ?_
  refine wr_iald (wg_da dt_X6_expect 4 rfl) (wg_ty Sc_ok 6 3 0 hx0 rfl (by decide)).2 h (fun v1 h => ?_)
  refine wr_iload_n (wg_da dt_X6_expect 5 rfl) rfl ?_
  refine wr_icmp_eq 19 (wg_da dt_X6_expect 6 rfl) (by decide) h (fun h => ?_) (fun h => ?_)
  · refine wr_aload_n (wg_da dt_X6_expect 11 rfl) rfl ?_
    refine wr_dup (wg_da dt_X6_expect 12 rfl) ?_
    refine wr_getI wf_X6_57 (wg_da dt_X6_expect 13 rfl) hx0 ?_
    refine wr_iconst (1 : Int32) (wg_da dt_X6_expect 14 rfl) (by decide) ?_
    refine wr_iadd (wg_da dt_X6_expect 15 rfl) ?_
    refine wr_putI wfp_X6_57 (wg_da dt_X6_expect 16 rfl) hx0 h (fun s2 h => ?_)
    refine wr_iconst (1 : Int32) (wg_da dt_X6_expect 17 rfl) (by decide) ?_
    exact wr_zret1 (wg_da dt_X6_expect 18 rfl) h
  · refine wr_aload_n (wg_da dt_X6_expect 7 rfl) rfl ?_
    refine wr_iconst (1 : Int32) (wg_da dt_X6_expect 8 rfl) (by decide) ?_
    refine wr_callVi [.int (1 : Int32)] [] (wg_da dt_X6_expect 9 rfl) ⟨wq_4_176, wq_4_178, wq_p2_3⟩ hx0 ⟨rfl, by decide⟩ wy_X6_fail (fun q hq => m_X6_fail l E x0 (1 : Int32) hx0 _ q hq) rfl rfl (Nat.le_of_ble_eq_true rfl) ⟨rfl, rfl, by decide, by decide⟩ h (fun v3 s4 h => ?_)
    exact wr_zret (wg_da dt_X6_expect 10 rfl) h
theorem m_X6_expect (l : Launch) (E : wg_E) (x0 : Nat) (x1 : Int32) (hx0 : wg_t Sc x0 = 8) (σ : wg_M) (q : Int32 × wg_M) (h : f_X6_expect x0 x1 σ = some q) : wg_MG l E Sc yX6_expect cX6_expect 2 (some .boolean) rm_X6_expect [.ref x0, .int x1] σ (some q.1) q.2 :=
  wg_met [.ref x0, .int x1] (plainFor_of_name (by decide)) (Nat.le_of_ble_eq_true rfl) (g_X6_expect_e l E x0 x1 σ q hx0 h)
abbrev rm_X6_readNumber : Room := { frames := 1, cells := 0, slots := 0, locals := 22 }
def tb_X6_readNumber : List (Nat × Instr × Nat) := [(0, .aload_n 0, 1), (1, .getfield 15, 3), (4, .aload_n 0, 1), (5, .getfield 57, 3), (8, .iaload, 1), (9, .iconst 2, 1), (10, .if_icmp .eq 11, 3), (13, .aload_n 0, 1), (14, .iconst 1, 1), (15, .invokevirtual 102, 3), (18, .pop, 1), (19, .iconst (-1), 1), (20, .ireturn, 1), (21, .aload_n 0, 1), (22, .getfield 18, 3), (25, .aload_n 0, 1), (26, .getfield 57, 3), (29, .iaload, 1), (30, .iload_n 1, 1), (31, .iload_n 2, 1), (32, .invokestatic 84, 3), (35, .ifCond .ne 11, 3), (38, .aload_n 0, 1), (39, .iconst 2, 1), (40, .invokevirtual 102, 3), (43, .pop, 1), (44, .iconst (-1), 1), (45, .ireturn, 1), (46, .aload_n 0, 1), (47, .dup, 1), (48, .getfield 57, 3), (51, .iconst 1, 1), (52, .iadd, 1), (53, .putfield 57, 3), (56, .aload_n 0, 1), (57, .getfield 18, 3), (60, .aload_n 0, 1), (61, .getfield 57, 3), (64, .iconst 1, 1), (65, .isub, 1), (66, .iaload, 1), (67, .ireturn, 1)]
theorem dt_X6_readNumber : wg_dc cX6_readNumber tb_X6_readNumber := by unfold wg_dc; decide +kernel
def f_X6_readNumber  (x0 : Nat) (x1 : Int32) (x2 : Int32) (σ : wg_M) : Option (Int32 × wg_M) := wg_ga (wg_n Sc (wg_r Sc x0 3)) (σ (wg_r Sc x0 3)) (σ x0 7) (fun v1 => if v1 = (2 : Int32) then (wg_ga (wg_n Sc (wg_r Sc x0 4)) (σ (wg_r Sc x0 4)) (σ x0 7) (fun v2 => wg_bd (f_X11_within v2 x1 x2 σ) (fun v3 s4 => if v3 = 0 then (wg_bd (f_X6_fail x0 (2 : Int32) s4) (fun v7 s8 => some ((-1 : Int32), s8))) else (wg_st s4 x0 7 ((s4 x0 7) + (1 : Int32)) (fun s5 => wg_ga (wg_n Sc (wg_r Sc x0 4)) (s5 (wg_r Sc x0 4)) ((s5 x0 7) - (1 : Int32)) (fun v6 => some (v6, s5))))))) else (wg_bd (f_X6_fail x0 (1 : Int32) σ) (fun v9 s10 => some ((-1 : Int32), s10))))
set_option maxRecDepth 20000 in
theorem g_X6_readNumber_e (l : Launch) (E : wg_E)  (x0 : Nat) (x1 : Int32) (x2 : Int32) (σ : wg_M) (z : Int32 × wg_M) (hx0 : wg_t Sc x0 = 8) (h : f_X6_readNumber  x0 x1 x2 σ = some z) : wg_G l E Sc "WornWigs$Reader" cX6_readNumber 3 (some .int) rm_X6_readNumber (some z.1) z.2 0 [some (.ref x0), some (.int x1), some (.int x2)] [] σ := by
  refine wr_aload_n (wg_da dt_X6_readNumber 0 rfl) rfl ?_
  refine wr_getR wf_X6_15 (wg_da dt_X6_readNumber 1 rfl) hx0 ?_
  refine wr_aload_n (wg_da dt_X6_readNumber 2 rfl) rfl ?_
  refine wr_getI wf_X6_57 (wg_da dt_X6_readNumber 3 rfl) hx0 ?_
  refine wr_iald (wg_da dt_X6_readNumber 4 rfl) (wg_ty Sc_ok 6 3 0 hx0 rfl (by decide)).2 h (fun v1 h => ?_)
  refine wr_iconst (2 : Int32) (wg_da dt_X6_readNumber 5 rfl) (by decide) ?_
  refine wr_icmp_eq 21 (wg_da dt_X6_readNumber 6 rfl) (by decide) h (fun h => ?_) (fun h => ?_)
  · refine wr_aload_n (wg_da dt_X6_readNumber 13 rfl) rfl ?_
    refine wr_getR wf_X6_18 (wg_da dt_X6_readNumber 14 rfl) hx0 ?_
    refine wr_aload_n (wg_da dt_X6_readNumber 15 rfl) rfl ?_
    refine wr_getI wf_X6_57 (wg_da dt_X6_readNumber 16 rfl) hx0 ?_
    refine wr_iald (wg_da dt_X6_readNumber 17 rfl) (wg_ty Sc_ok 6 4 0 hx0 rfl (by decide)).2 h (fun v2 h => ?_)
    refine wr_iload_n (wg_da dt_X6_readNumber 18 rfl) rfl ?_
    refine wr_iload_n (wg_da dt_X6_readNumber 19 rfl) rfl ?_
    refine wr_callNi [.int v2, .int x1, .int x2] [] (wg_da dt_X6_readNumber 20 rfl) ⟨List.mem_of_getElem? (i := 15) rfl, wq_3_49⟩ wy_X11_within (fun q hq => m_X11_within l E v2 x1 x2  _ q hq) rfl rfl (Nat.le_of_ble_eq_true rfl) ⟨rfl, rfl, by decide, by decide⟩ h (fun v3 s4 h => ?_)
    refine wr_if_ne 46 (wg_da dt_X6_readNumber 21 rfl) (by decide) h (fun h => ?_) (fun h => ?_)
    · refine wr_aload_n (wg_da dt_X6_readNumber 22 rfl) rfl ?_
      refine wr_iconst (2 : Int32) (wg_da dt_X6_readNumber 23 rfl) (by decide) ?_
      refine wr_callVi [.int (2 : Int32)] [] (wg_da dt_X6_readNumber 24 rfl) ⟨wq_4_176, wq_4_178, wq_p2_3⟩ hx0 ⟨rfl, by decide⟩ wy_X6_fail (fun q hq => m_X6_fail l E x0 (2 : Int32) hx0 _ q hq) rfl rfl (Nat.le_of_ble_eq_true rfl) ⟨rfl, rfl, by decide, by decide⟩ h (fun v7 s8 h => ?_)
      refine wr_pop (wg_da dt_X6_readNumber 25 rfl) ?_
      refine wr_iconst (-1 : Int32) (wg_da dt_X6_readNumber 26 rfl) (by decide) ?_
      exact wr_iret (wg_da dt_X6_readNumber 27 rfl) h
    · refine wr_aload_n (wg_da dt_X6_readNumber 28 rfl) rfl ?_
      refine wr_dup (wg_da dt_X6_readNumber 29 rfl) ?_
      refine wr_getI wf_X6_57 (wg_da dt_X6_readNumber 30 rfl) hx0 ?_
      refine wr_iconst (1 : Int32) (wg_da dt_X6_readNumber 31 rfl) (by decide) ?_
      refine wr_iadd (wg_da dt_X6_readNumber 32 rfl) ?_
      refine wr_putI wfp_X6_57 (wg_da dt_X6_readNumber 33 rfl) hx0 h (fun s5 h => ?_)
      refine wr_aload_n (wg_da dt_X6_readNumber 34 rfl) rfl ?_
      refine wr_getR wf_X6_18 (wg_da dt_X6_readNumber 35 rfl) hx0 ?_
      refine wr_aload_n (wg_da dt_X6_readNumber 36 rfl) rfl ?_
      refine wr_getI wf_X6_57 (wg_da dt_X6_readNumber 37 rfl) hx0 ?_
      refine wr_iconst (1 : Int32) (wg_da dt_X6_readNumber 38 rfl) (by decide) ?_
      refine wr_isub (wg_da dt_X6_readNumber 39 rfl) ?_
      refine wr_iald (wg_da dt_X6_readNumber 40 rfl) (wg_ty Sc_ok 6 4 0 hx0 rfl (by decide)).2 h (fun v6 h => ?_)
      exact wr_iret (wg_da dt_X6_readNumber 41 rfl) h
  · refine wr_aload_n (wg_da dt_X6_readNumber 7 rfl) rfl ?_
    refine wr_iconst (1 : Int32) (wg_da dt_X6_readNumber 8 rfl) (by decide) ?_
    refine wr_callVi [.int (1 : Int32)] [] (wg_da dt_X6_readNumber 9 rfl) ⟨wq_4_176, wq_4_178, wq_p2_3⟩ hx0 ⟨rfl, by decide⟩ wy_X6_fail (fun q hq => m_X6_fail l E x0 (1 : Int32) hx0 _ q hq) rfl rfl (Nat.le_of_ble_eq_true rfl) ⟨rfl, rfl, by decide, by decide⟩ h (fun v9 s10 h => ?_)
    refine wr_pop (wg_da dt_X6_readNumber 10 rfl) ?_
    refine wr_iconst (-1 : Int32) (wg_da dt_X6_readNumber 11 rfl) (by decide) ?_
    exact wr_iret (wg_da dt_X6_readNumber 12 rfl) h
theorem m_X6_readNumber (l : Launch) (E : wg_E) (x0 : Nat) (x1 : Int32) (x2 : Int32) (hx0 : wg_t Sc x0 = 8) (σ : wg_M) (q : Int32 × wg_M) (h : f_X6_readNumber x0 x1 x2 σ = some q) : wg_MG l E Sc yX6_readNumber cX6_readNumber 3 (some .int) rm_X6_readNumber [.ref x0, .int x1, .int x2] σ (some q.1) q.2 :=
  wg_met [.ref x0, .int x1, .int x2] (plainFor_of_name (by decide)) (Nat.le_of_ble_eq_true rfl) (g_X6_readNumber_e l E x0 x1 x2 σ q hx0 h)
abbrev rm_X6_readWig : Room := { frames := 2, cells := 0, slots := 0, locals := 44 }
def tb_X6_readWig : List (Nat × Instr × Nat) := [(0, .aload_n 0, 1), (1, .iconst 0, 1), (2, .aload_n 0, 1), (3, .getfield 47, 3), (6, .getfield 105, 3), (9, .getfield 111, 3), (12, .getfield 117, 3), (15, .iconst 1, 1), (16, .isub, 1), (17, .invokevirtual 122, 3), (20, .ireturn, 1)]
theorem dt_X6_readWig : wg_dc cX6_readWig tb_X6_readWig := by unfold wg_dc; decide +kernel
def f_X6_readWig  (x0 : Nat) (σ : wg_M) : Option (Int32 × wg_M) := wg_bd (f_X6_readNumber x0 (0 : Int32) ((σ (wg_r Sc (wg_r Sc (wg_r Sc x0 0) 0) 0) 8) - (1 : Int32)) σ) (fun v1 s2 => some (v1, s2))
set_option maxRecDepth 20000 in
theorem g_X6_readWig_e (l : Launch) (E : wg_E)  (x0 : Nat) (σ : wg_M) (z : Int32 × wg_M) (hx0 : wg_t Sc x0 = 8) (h : f_X6_readWig  x0 σ = some z) : wg_G l E Sc "WornWigs$Reader" cX6_readWig 1 (some .int) rm_X6_readWig (some z.1) z.2 0 [some (.ref x0)] [] σ := by
  refine wr_aload_n (wg_da dt_X6_readWig 0 rfl) rfl ?_
  refine wr_iconst (0 : Int32) (wg_da dt_X6_readWig 1 rfl) (by decide) ?_
  refine wr_aload_n (wg_da dt_X6_readWig 2 rfl) rfl ?_
  refine wr_getR wf_X6_47 (wg_da dt_X6_readWig 3 rfl) hx0 ?_
  refine wr_getR wf_X6_105 (wg_da dt_X6_readWig 4 rfl) (wg_ty Sc_ok 6 0 12 hx0 rfl (by decide)).2 ?_
  refine wr_getR wf_X6_111 (wg_da dt_X6_readWig 5 rfl) (wg_ty Sc_ok 10 0 2 (wg_ty Sc_ok 6 0 12 hx0 rfl (by decide)).2 rfl (by decide)).2 ?_
  refine wr_getI wf_X6_117 (wg_da dt_X6_readWig 6 rfl) (wg_ty Sc_ok 0 0 11 (wg_ty Sc_ok 10 0 2 (wg_ty Sc_ok 6 0 12 hx0 rfl (by decide)).2 rfl (by decide)).2 rfl (by decide)).2 ?_
  refine wr_iconst (1 : Int32) (wg_da dt_X6_readWig 7 rfl) (by decide) ?_
  refine wr_isub (wg_da dt_X6_readWig 8 rfl) ?_
  refine wr_callVi [.int (0 : Int32), .int ((σ (wg_r Sc (wg_r Sc (wg_r Sc x0 0) 0) 0) 8) - (1 : Int32))] [] (wg_da dt_X6_readWig 9 rfl) ⟨wq_4_196, wq_4_198, wq_p2_7⟩ hx0 ⟨rfl, by decide⟩ wy_X6_readNumber (fun q hq => m_X6_readNumber l E x0 (0 : Int32) ((σ (wg_r Sc (wg_r Sc (wg_r Sc x0 0) 0) 0) 8) - (1 : Int32)) hx0 _ q hq) rfl rfl (Nat.le_of_ble_eq_true rfl) ⟨rfl, rfl, by decide, by decide⟩ h (fun v1 s2 h => ?_)
  exact wr_iret (wg_da dt_X6_readWig 10 rfl) h
theorem m_X6_readWig (l : Launch) (E : wg_E) (x0 : Nat) (hx0 : wg_t Sc x0 = 8) (σ : wg_M) (q : Int32 × wg_M) (h : f_X6_readWig x0 σ = some q) : wg_MG l E Sc yX6_readWig cX6_readWig 1 (some .int) rm_X6_readWig [.ref x0] σ (some q.1) q.2 :=
  wg_met [.ref x0] (plainFor_of_name (by decide)) (Nat.le_of_ble_eq_true rfl) (g_X6_readWig_e l E x0 σ q hx0 h)
abbrev rm_X6_readJudge : Room := { frames := 2, cells := 0, slots := 0, locals := 44 }
def tb_X6_readJudge : List (Nat × Instr × Nat) := [(0, .aload_n 0, 1), (1, .iconst 0, 1), (2, .aload_n 0, 1), (3, .getfield 47, 3), (6, .getfield 105, 3), (9, .getfield 125, 3), (12, .getfield 129, 3), (15, .iconst 1, 1), (16, .isub, 1), (17, .invokevirtual 122, 3), (20, .ireturn, 1)]
theorem dt_X6_readJudge : wg_dc cX6_readJudge tb_X6_readJudge := by unfold wg_dc; decide +kernel
def f_X6_readJudge  (x0 : Nat) (σ : wg_M) : Option (Int32 × wg_M) := wg_bd (f_X6_readNumber x0 (0 : Int32) ((σ (wg_r Sc (wg_r Sc (wg_r Sc x0 0) 0) 1) 5) - (1 : Int32)) σ) (fun v1 s2 => some (v1, s2))
set_option maxRecDepth 20000 in
theorem g_X6_readJudge_e (l : Launch) (E : wg_E)  (x0 : Nat) (σ : wg_M) (z : Int32 × wg_M) (hx0 : wg_t Sc x0 = 8) (h : f_X6_readJudge  x0 σ = some z) : wg_G l E Sc "WornWigs$Reader" cX6_readJudge 1 (some .int) rm_X6_readJudge (some z.1) z.2 0 [some (.ref x0)] [] σ := by
  refine wr_aload_n (wg_da dt_X6_readJudge 0 rfl) rfl ?_
  refine wr_iconst (0 : Int32) (wg_da dt_X6_readJudge 1 rfl) (by decide) ?_
  refine wr_aload_n (wg_da dt_X6_readJudge 2 rfl) rfl ?_
  refine wr_getR wf_X6_47 (wg_da dt_X6_readJudge 3 rfl) hx0 ?_
  refine wr_getR wf_X6_105 (wg_da dt_X6_readJudge 4 rfl) (wg_ty Sc_ok 6 0 12 hx0 rfl (by decide)).2 ?_
  refine wr_getR wf_X6_125 (wg_da dt_X6_readJudge 5 rfl) (wg_ty Sc_ok 10 0 2 (wg_ty Sc_ok 6 0 12 hx0 rfl (by decide)).2 rfl (by decide)).2 ?_
  refine wr_getI wf_X6_129 (wg_da dt_X6_readJudge 6 rfl) (wg_ty Sc_ok 0 1 4 (wg_ty Sc_ok 10 0 2 (wg_ty Sc_ok 6 0 12 hx0 rfl (by decide)).2 rfl (by decide)).2 rfl (by decide)).2 ?_
  refine wr_iconst (1 : Int32) (wg_da dt_X6_readJudge 7 rfl) (by decide) ?_
  refine wr_isub (wg_da dt_X6_readJudge 8 rfl) ?_
  refine wr_callVi [.int (0 : Int32), .int ((σ (wg_r Sc (wg_r Sc (wg_r Sc x0 0) 0) 1) 5) - (1 : Int32))] [] (wg_da dt_X6_readJudge 9 rfl) ⟨wq_4_196, wq_4_198, wq_p2_7⟩ hx0 ⟨rfl, by decide⟩ wy_X6_readNumber (fun q hq => m_X6_readNumber l E x0 (0 : Int32) ((σ (wg_r Sc (wg_r Sc (wg_r Sc x0 0) 0) 1) 5) - (1 : Int32)) hx0 _ q hq) rfl rfl (Nat.le_of_ble_eq_true rfl) ⟨rfl, rfl, by decide, by decide⟩ h (fun v1 s2 h => ?_)
  exact wr_iret (wg_da dt_X6_readJudge 10 rfl) h
theorem m_X6_readJudge (l : Launch) (E : wg_E) (x0 : Nat) (hx0 : wg_t Sc x0 = 8) (σ : wg_M) (q : Int32 × wg_M) (h : f_X6_readJudge x0 σ = some q) : wg_MG l E Sc yX6_readJudge cX6_readJudge 1 (some .int) rm_X6_readJudge [.ref x0] σ (some q.1) q.2 :=
  wg_met [.ref x0] (plainFor_of_name (by decide)) (Nat.le_of_ble_eq_true rfl) (g_X6_readJudge_e l E x0 σ q hx0 h)
abbrev rm_X6_expectFirst : Room := { frames := 2, cells := 0, slots := 0, locals := 42 }
def tb_X6_expectFirst : List (Nat × Instr × Nat) := [(0, .aload_n 0, 1), (1, .getfield 15, 3), (4, .aload_n 0, 1), (5, .getfield 57, 3), (8, .iaload, 1), (9, .iload_n 1, 1), (10, .if_icmp .ne 15, 3), (13, .iload_n 2, 1), (14, .bipush 16, 2), (16, .if_icmp .lt 9, 3), (19, .aload_n 0, 1), (20, .iconst 3, 1), (21, .invokevirtual 102, 3), (24, .ireturn, 1), (25, .aload_n 0, 1), (26, .iload_n 1, 1), (27, .invokevirtual 153, 3), (30, .ireturn, 1)]
theorem dt_X6_expectFirst : wg_dc cX6_expectFirst tb_X6_expectFirst := by unfold wg_dc; decide +kernel
def f_X6_expectFirst_25  (x0 : Nat) (x1 : Int32) (σ : wg_M) : Option (Int32 × wg_M) := wg_bd (f_X6_expect x0 x1 σ) (fun v1 s2 => wg_bz v1 (some (v1, s2)))
def f_X6_expectFirst  (x0 : Nat) (x1 : Int32) (x2 : Int32) (σ : wg_M) : Option (Int32 × wg_M) := wg_ga (wg_n Sc (wg_r Sc x0 3)) (σ (wg_r Sc x0 3)) (σ x0 7) (fun v1 => if v1 = x1 then (if x2 < (16 : Int32) then (f_X6_expectFirst_25  x0 x1 σ) else (wg_bd (f_X6_fail x0 (3 : Int32) σ) (fun v2 s3 => wg_bz v2 (some (v2, s3))))) else (f_X6_expectFirst_25  x0 x1 σ))
set_option maxRecDepth 20000 in
theorem g_X6_expectFirst_25 (l : Launch) (E : wg_E)  (x0 : Nat) (x1 : Int32) (σ : wg_M) (z : Int32 × wg_M) (hx0 : wg_t Sc x0 = 8) (h : f_X6_expectFirst_25  x0 x1 σ = some z) : wg_G l E Sc "WornWigs$Reader" cX6_expectFirst 3 (some .boolean) rm_X6_expectFirst (some z.1) z.2 25 [some (.ref x0), some (.int x1), none] [] σ := by
  refine wr_aload_n (wg_da dt_X6_expectFirst 14 rfl) rfl ?_
  refine wr_iload_n (wg_da dt_X6_expectFirst 15 rfl) rfl ?_
  refine wr_callVi [.int x1] [] (wg_da dt_X6_expectFirst 16 rfl) ⟨wq_4_224, wq_4_226, wq_p2_14⟩ hx0 ⟨rfl, by decide⟩ wy_X6_expect (fun q hq => m_X6_expect l E x0 x1 hx0 _ q hq) rfl rfl (Nat.le_of_ble_eq_true rfl) ⟨rfl, rfl, by decide, by decide⟩ h (fun v1 s2 h => ?_)
  exact wr_zret (wg_da dt_X6_expectFirst 17 rfl) h
set_option maxRecDepth 20000 in
theorem g_X6_expectFirst_e (l : Launch) (E : wg_E)  (x0 : Nat) (x1 : Int32) (x2 : Int32) (σ : wg_M) (z : Int32 × wg_M) (hx0 : wg_t Sc x0 = 8) (h : f_X6_expectFirst  x0 x1 x2 σ = some z) : wg_G l E Sc "WornWigs$Reader" cX6_expectFirst 3 (some .boolean) rm_X6_expectFirst (some z.1) z.2 0 [some (.ref x0), some (.int x1), some (.int x2)] [] σ := by
  refine wr_aload_n (wg_da dt_X6_expectFirst 0 rfl) rfl ?_
  refine wr_getR wf_X6_15 (wg_da dt_X6_expectFirst 1 rfl) hx0 ?_
  refine wr_aload_n (wg_da dt_X6_expectFirst 2 rfl) rfl ?_
  refine wr_getI wf_X6_57 (wg_da dt_X6_expectFirst 3 rfl) hx0 ?_
  refine wr_iald (wg_da dt_X6_expectFirst 4 rfl) (wg_ty Sc_ok 6 3 0 hx0 rfl (by decide)).2 h (fun v1 h => ?_)
  refine wr_iload_n (wg_da dt_X6_expectFirst 5 rfl) rfl ?_
  refine wr_icmp_ne 25 (wg_da dt_X6_expectFirst 6 rfl) (by decide) h (fun h => ?_) (fun h => ?_)
  · refine wr_iload_n (wg_da dt_X6_expectFirst 7 rfl) rfl ?_
    refine wr_bipush (16 : Int32) (wg_da dt_X6_expectFirst 8 rfl) (by decide) ?_
    refine wr_icmp_lt 25 (wg_da dt_X6_expectFirst 9 rfl) (by decide) h (fun h => ?_) (fun h => ?_)
    · exact wr_wk [true, true, false] (g_X6_expectFirst_25 l E  x0 x1 σ _ hx0  h)
    · refine wr_aload_n (wg_da dt_X6_expectFirst 10 rfl) rfl ?_
      refine wr_iconst (3 : Int32) (wg_da dt_X6_expectFirst 11 rfl) (by decide) ?_
      refine wr_callVi [.int (3 : Int32)] [] (wg_da dt_X6_expectFirst 12 rfl) ⟨wq_4_176, wq_4_178, wq_p2_3⟩ hx0 ⟨rfl, by decide⟩ wy_X6_fail (fun q hq => m_X6_fail l E x0 (3 : Int32) hx0 _ q hq) rfl rfl (Nat.le_of_ble_eq_true rfl) ⟨rfl, rfl, by decide, by decide⟩ h (fun v2 s3 h => ?_)
      exact wr_zret (wg_da dt_X6_expectFirst 13 rfl) h
  · exact wr_wk [true, true, false] (g_X6_expectFirst_25 l E  x0 x1 σ _ hx0  h)
theorem m_X6_expectFirst (l : Launch) (E : wg_E) (x0 : Nat) (x1 : Int32) (x2 : Int32) (hx0 : wg_t Sc x0 = 8) (σ : wg_M) (q : Int32 × wg_M) (h : f_X6_expectFirst x0 x1 x2 σ = some q) : wg_MG l E Sc yX6_expectFirst cX6_expectFirst 3 (some .boolean) rm_X6_expectFirst [.ref x0, .int x1, .int x2] σ (some q.1) q.2 :=
  wg_met [.ref x0, .int x1, .int x2] (plainFor_of_name (by decide)) (Nat.le_of_ble_eq_true rfl) (g_X6_expectFirst_e l E x0 x1 x2 σ q hx0 h)
abbrev rm_X6_readKinLine : Room := { frames := 3, cells := 0, slots := 0, locals := 64 }
def tb_X6_readKinLine : List (Nat × Instr × Nat) := [(0, .aload_n 0, 1), (1, .sipush 276, 3), (4, .aload_n 0, 1), (5, .getfield 40, 3), (8, .getfield 132, 3), (11, .invokevirtual 156, 3), (14, .ifCond .ne 5, 3), (17, .iconst 0, 1), (18, .ireturn, 1), (19, .aload_n 0, 1), (20, .invokevirtual 160, 3), (23, .istore_n 1, 1), (24, .iload_n 1, 1), (25, .iconst (-1), 1), (26, .if_icmp .eq 13, 3), (29, .aload_n 0, 1), (30, .sipush 281, 3), (33, .invokevirtual 153, 3), (36, .ifCond .ne 5, 3), (39, .iconst 0, 1), (40, .ireturn, 1), (41, .aload_n 0, 1), (42, .getfield 15, 3), (45, .aload_n 0, 1), (46, .getfield 57, 3), (49, .iaload, 1), (50, .iconst 2, 1), (51, .if_icmp .ne 22, 3), (54, .aload_n 0, 1), (55, .getfield 18, 3), (58, .aload_n 0, 1), (59, .getfield 57, 3), (62, .iaload, 1), (63, .iload_n 1, 1), (64, .if_icmp .ne 9, 3), (67, .aload_n 0, 1), (68, .iconst 2, 1), (69, .invokevirtual 102, 3), (72, .ireturn, 1), (73, .aload_n 0, 1), (74, .invokevirtual 160, 3), (77, .istore_n 2, 1), (78, .iload_n 2, 1), (79, .iconst (-1), 1), (80, .if_icmp .eq 12, 3), (83, .aload_n 0, 1), (84, .bipush 59, 2), (86, .invokevirtual 153, 3), (89, .ifCond .ne 5, 3), (92, .iconst 0, 1), (93, .ireturn, 1), (94, .aload_n 0, 1), (95, .getfield 40, 3), (98, .iconst 0, 1), (99, .iconst 0, 1), (100, .iload_n 1, 1), (101, .iload_n 2, 1), (102, .invokevirtual 163, 3), (105, .iconst 1, 1), (106, .ireturn, 1)]
theorem dt_X6_readKinLine : wg_dc cX6_readKinLine tb_X6_readKinLine := by unfold wg_dc; decide +kernel
def f_X6_readKinLine_73  (x0 : Nat) (x1 : Int32) (σ : wg_M) : Option (Int32 × wg_M) := wg_bd (f_X6_readWig x0 σ) (fun v1 s2 => if v1 = (-1 : Int32) then (some ((0 : Int32), s2)) else (wg_bd (f_X6_expect x0 (59 : Int32) s2) (fun v3 s4 => if v3 = 0 then (some ((0 : Int32), s4)) else (wg_bd (f_X4_add (wg_r Sc x0 11) (0 : Int32) (0 : Int32) x1 v1 s4) (fun _ s5 => some ((1 : Int32), s5))))))
def f_X6_readKinLine  (x0 : Nat) (σ : wg_M) : Option (Int32 × wg_M) := wg_bd (f_X6_expectFirst x0 (276 : Int32) (σ (wg_r Sc x0 11) 4) σ) (fun v1 s2 => if v1 = 0 then (some ((0 : Int32), s2)) else (wg_bd (f_X6_readWig x0 s2) (fun v3 s4 => if v3 = (-1 : Int32) then (some ((0 : Int32), s4)) else (wg_bd (f_X6_expect x0 (281 : Int32) s4) (fun v5 s6 => if v5 = 0 then (some ((0 : Int32), s6)) else (wg_ga (wg_n Sc (wg_r Sc x0 3)) (s6 (wg_r Sc x0 3)) (s6 x0 7) (fun v7 => if v7 = (2 : Int32) then (wg_ga (wg_n Sc (wg_r Sc x0 4)) (s6 (wg_r Sc x0 4)) (s6 x0 7) (fun v8 => if v8 = v3 then (wg_bd (f_X6_fail x0 (2 : Int32) s6) (fun v9 s10 => wg_bz v9 (some (v9, s10)))) else (f_X6_readKinLine_73  x0 v3 s6))) else (f_X6_readKinLine_73  x0 v3 s6))))))))
set_option maxRecDepth 20000 in
theorem g_X6_readKinLine_73 (l : Launch) (E : wg_E)  (x0 : Nat) (x1 : Int32) (σ : wg_M) (z : Int32 × wg_M) (hx0 : wg_t Sc x0 = 8) (h : f_X6_readKinLine_73  x0 x1 σ = some z) : wg_G l E Sc "WornWigs$Reader" cX6_readKinLine 3 (some .boolean) rm_X6_readKinLine (some z.1) z.2 73 [some (.ref x0), some (.int x1), none] [] σ := by
  refine wr_aload_n (wg_da dt_X6_readKinLine 39 rfl) rfl ?_
  refine wr_callVi [] [] (wg_da dt_X6_readKinLine 40 rfl) ⟨wq_5_5, wq_5_7, wq_p3_1⟩ hx0 ⟨rfl, by decide⟩ wy_X6_readWig (fun q hq => m_X6_readWig l E x0 hx0 _ q hq) rfl rfl (Nat.le_of_ble_eq_true rfl) ⟨rfl, rfl, by decide, by decide⟩ h (fun v1 s2 h => ?_)
  refine wr_istore_n (wg_da dt_X6_readKinLine 41 rfl) (by decide) ?_
  refine wr_iload_n (wg_da dt_X6_readKinLine 42 rfl) rfl ?_
  refine wr_iconst (-1 : Int32) (wg_da dt_X6_readKinLine 43 rfl) (by decide) ?_
  refine wr_icmp_eq 92 (wg_da dt_X6_readKinLine 44 rfl) (by decide) h (fun h => ?_) (fun h => ?_)
  · refine wr_iconst (0 : Int32) (wg_da dt_X6_readKinLine 49 rfl) (by decide) ?_
    exact wr_zret0 (wg_da dt_X6_readKinLine 50 rfl) h
  · refine wr_aload_n (wg_da dt_X6_readKinLine 45 rfl) rfl ?_
    refine wr_bipush (59 : Int32) (wg_da dt_X6_readKinLine 46 rfl) (by decide) ?_
    refine wr_callVi [.int (59 : Int32)] [] (wg_da dt_X6_readKinLine 47 rfl) ⟨wq_4_224, wq_4_226, wq_p2_14⟩ hx0 ⟨rfl, by decide⟩ wy_X6_expect (fun q hq => m_X6_expect l E x0 (59 : Int32) hx0 _ q hq) rfl rfl (Nat.le_of_ble_eq_true rfl) ⟨rfl, rfl, by decide, by decide⟩ h (fun v3 s4 h => ?_)
    refine wr_if_ne 94 (wg_da dt_X6_readKinLine 48 rfl) (by decide) h (fun h => ?_) (fun h => ?_)
    · refine wr_iconst (0 : Int32) (wg_da dt_X6_readKinLine 49 rfl) (by decide) ?_
      exact wr_zret0 (wg_da dt_X6_readKinLine 50 rfl) h
    · refine wr_aload_n (wg_da dt_X6_readKinLine 51 rfl) rfl ?_
      refine wr_getR wf_X6_40 (wg_da dt_X6_readKinLine 52 rfl) hx0 ?_
      refine wr_iconst (0 : Int32) (wg_da dt_X6_readKinLine 53 rfl) (by decide) ?_
      refine wr_iconst (0 : Int32) (wg_da dt_X6_readKinLine 54 rfl) (by decide) ?_
      refine wr_iload_n (wg_da dt_X6_readKinLine 55 rfl) rfl ?_
      refine wr_iload_n (wg_da dt_X6_readKinLine 56 rfl) rfl ?_
      refine wr_callVv [.int (0 : Int32), .int (0 : Int32), .int x1, .int v1] [] (wg_da dt_X6_readKinLine 57 rfl) ⟨wq_5_9, wq_3_220, wq_3_221⟩ (wg_ty Sc_ok 6 11 6 hx0 rfl (by decide)).2 ⟨rfl, by decide⟩ wy_X4_add (fun q hq => m_X4_add l E (wg_r Sc x0 11) (0 : Int32) (0 : Int32) x1 v1 (wg_ty Sc_ok 6 11 6 hx0 rfl (by decide)).2 _ q hq) rfl rfl (Nat.le_of_ble_eq_true rfl) ⟨rfl, rfl, by decide, by decide⟩ h (fun _ s5 h => ?_)
      refine wr_iconst (1 : Int32) (wg_da dt_X6_readKinLine 58 rfl) (by decide) ?_
      exact wr_zret1 (wg_da dt_X6_readKinLine 59 rfl) h
set_option maxRecDepth 20000 in
theorem g_X6_readKinLine_e (l : Launch) (E : wg_E)  (x0 : Nat) (σ : wg_M) (z : Int32 × wg_M) (hx0 : wg_t Sc x0 = 8) (h : f_X6_readKinLine  x0 σ = some z) : wg_G l E Sc "WornWigs$Reader" cX6_readKinLine 3 (some .boolean) rm_X6_readKinLine (some z.1) z.2 0 [some (.ref x0), none, none] [] σ := by
  refine wr_aload_n (wg_da dt_X6_readKinLine 0 rfl) rfl ?_
  refine wr_sipush (276 : Int32) (wg_da dt_X6_readKinLine 1 rfl) (by decide) ?_
  refine wr_aload_n (wg_da dt_X6_readKinLine 2 rfl) rfl ?_
  refine wr_getR wf_X6_40 (wg_da dt_X6_readKinLine 3 rfl) hx0 ?_
  refine wr_getI wf_X6_132 (wg_da dt_X6_readKinLine 4 rfl) (wg_ty Sc_ok 6 11 6 hx0 rfl (by decide)).2 ?_
  refine wr_callVi [.int (276 : Int32), .int (σ (wg_r Sc x0 11) 4)] [] (wg_da dt_X6_readKinLine 5 rfl) ⟨wq_5_1, wq_5_3, wq_p3_0⟩ hx0 ⟨rfl, by decide⟩ wy_X6_expectFirst (fun q hq => m_X6_expectFirst l E x0 (276 : Int32) (σ (wg_r Sc x0 11) 4) hx0 _ q hq) rfl rfl (Nat.le_of_ble_eq_true rfl) ⟨rfl, rfl, by decide, by decide⟩ h (fun v1 s2 h => ?_)
  refine wr_if_ne 19 (wg_da dt_X6_readKinLine 6 rfl) (by decide) h (fun h => ?_) (fun h => ?_)
  · refine wr_iconst (0 : Int32) (wg_da dt_X6_readKinLine 7 rfl) (by decide) ?_
    exact wr_zret0 (wg_da dt_X6_readKinLine 8 rfl) h
  · refine wr_aload_n (wg_da dt_X6_readKinLine 9 rfl) rfl ?_
    refine wr_callVi [] [] (wg_da dt_X6_readKinLine 10 rfl) ⟨wq_5_5, wq_5_7, wq_p3_1⟩ hx0 ⟨rfl, by decide⟩ wy_X6_readWig (fun q hq => m_X6_readWig l E x0 hx0 _ q hq) rfl rfl (Nat.le_of_ble_eq_true rfl) ⟨rfl, rfl, by decide, by decide⟩ h (fun v3 s4 h => ?_)
    refine wr_istore_n (wg_da dt_X6_readKinLine 11 rfl) (by decide) ?_
    refine wr_iload_n (wg_da dt_X6_readKinLine 12 rfl) rfl ?_
    refine wr_iconst (-1 : Int32) (wg_da dt_X6_readKinLine 13 rfl) (by decide) ?_
    refine wr_icmp_eq 39 (wg_da dt_X6_readKinLine 14 rfl) (by decide) h (fun h => ?_) (fun h => ?_)
    · refine wr_iconst (0 : Int32) (wg_da dt_X6_readKinLine 19 rfl) (by decide) ?_
      exact wr_zret0 (wg_da dt_X6_readKinLine 20 rfl) h
    · refine wr_aload_n (wg_da dt_X6_readKinLine 15 rfl) rfl ?_
      refine wr_sipush (281 : Int32) (wg_da dt_X6_readKinLine 16 rfl) (by decide) ?_
      refine wr_callVi [.int (281 : Int32)] [] (wg_da dt_X6_readKinLine 17 rfl) ⟨wq_4_224, wq_4_226, wq_p2_14⟩ hx0 ⟨rfl, by decide⟩ wy_X6_expect (fun q hq => m_X6_expect l E x0 (281 : Int32) hx0 _ q hq) rfl rfl (Nat.le_of_ble_eq_true rfl) ⟨rfl, rfl, by decide, by decide⟩ h (fun v5 s6 h => ?_)
      refine wr_if_ne 41 (wg_da dt_X6_readKinLine 18 rfl) (by decide) h (fun h => ?_) (fun h => ?_)
      · refine wr_iconst (0 : Int32) (wg_da dt_X6_readKinLine 19 rfl) (by decide) ?_
        exact wr_zret0 (wg_da dt_X6_readKinLine 20 rfl) h
      · refine wr_aload_n (wg_da dt_X6_readKinLine 21 rfl) rfl ?_
        refine wr_getR wf_X6_15 (wg_da dt_X6_readKinLine 22 rfl) hx0 ?_
        refine wr_aload_n (wg_da dt_X6_readKinLine 23 rfl) rfl ?_
        refine wr_getI wf_X6_57 (wg_da dt_X6_readKinLine 24 rfl) hx0 ?_
        refine wr_iald (wg_da dt_X6_readKinLine 25 rfl) (wg_ty Sc_ok 6 3 0 hx0 rfl (by decide)).2 h (fun v7 h => ?_)
        refine wr_iconst (2 : Int32) (wg_da dt_X6_readKinLine 26 rfl) (by decide) ?_
        refine wr_icmp_ne 73 (wg_da dt_X6_readKinLine 27 rfl) (by decide) h (fun h => ?_) (fun h => ?_)
        · refine wr_aload_n (wg_da dt_X6_readKinLine 28 rfl) rfl ?_
          refine wr_getR wf_X6_18 (wg_da dt_X6_readKinLine 29 rfl) hx0 ?_
          refine wr_aload_n (wg_da dt_X6_readKinLine 30 rfl) rfl ?_
          refine wr_getI wf_X6_57 (wg_da dt_X6_readKinLine 31 rfl) hx0 ?_
          refine wr_iald (wg_da dt_X6_readKinLine 32 rfl) (wg_ty Sc_ok 6 4 0 hx0 rfl (by decide)).2 h (fun v8 h => ?_)
          refine wr_iload_n (wg_da dt_X6_readKinLine 33 rfl) rfl ?_
          refine wr_icmp_ne 73 (wg_da dt_X6_readKinLine 34 rfl) (by decide) h (fun h => ?_) (fun h => ?_)
          · refine wr_aload_n (wg_da dt_X6_readKinLine 35 rfl) rfl ?_
            refine wr_iconst (2 : Int32) (wg_da dt_X6_readKinLine 36 rfl) (by decide) ?_
            refine wr_callVi [.int (2 : Int32)] [] (wg_da dt_X6_readKinLine 37 rfl) ⟨wq_4_176, wq_4_178, wq_p2_3⟩ hx0 ⟨rfl, by decide⟩ wy_X6_fail (fun q hq => m_X6_fail l E x0 (2 : Int32) hx0 _ q hq) rfl rfl (Nat.le_of_ble_eq_true rfl) ⟨rfl, rfl, by decide, by decide⟩ h (fun v9 s10 h => ?_)
            exact wr_zret (wg_da dt_X6_readKinLine 38 rfl) h
          · exact wr_wk [true, true, false] (g_X6_readKinLine_73 l E  x0 v3 s6 _ hx0  h)
        · exact wr_wk [true, true, false] (g_X6_readKinLine_73 l E  x0 v3 s6 _ hx0  h)
theorem m_X6_readKinLine (l : Launch) (E : wg_E) (x0 : Nat) (hx0 : wg_t Sc x0 = 8) (σ : wg_M) (q : Int32 × wg_M) (h : f_X6_readKinLine x0 σ = some q) : wg_MG l E Sc yX6_readKinLine cX6_readKinLine 3 (some .boolean) rm_X6_readKinLine [.ref x0] σ (some q.1) q.2 :=
  wg_met [.ref x0] (plainFor_of_name (by decide)) (Nat.le_of_ble_eq_true rfl) (g_X6_readKinLine_e l E x0 σ q hx0 h)
abbrev rm_X6_readHearing : Room := { frames := 3, cells := 0, slots := 0, locals := 64 }
def tb_X6_readHearing : List (Nat × Instr × Nat) := [(0, .aload_n 0, 1), (1, .sipush 274, 3), (4, .invokevirtual 153, 3), (7, .ifCond .ne 5, 3), (10, .iconst 0, 1), (11, .ireturn, 1), (12, .aload_n 0, 1), (13, .iconst 0, 1), (14, .aload_n 0, 1), (15, .getfield 47, 3), (18, .getfield 105, 3), (21, .getfield 173, 3), (24, .iconst 1, 1), (25, .isub, 1), (26, .invokevirtual 122, 3), (29, .istore_n 2, 1), (30, .iload_n 2, 1), (31, .iconst (-1), 1), (32, .if_icmp .eq 13, 3), (35, .aload_n 0, 1), (36, .sipush 275, 3), (39, .invokevirtual 153, 3), (42, .ifCond .ne 5, 3), (45, .iconst 0, 1), (46, .ireturn, 1), (47, .aload_n 0, 1), (48, .invokevirtual 176, 3), (51, .istore_n 3, 1), (52, .aload_n 0, 1), (53, .getfield 40, 3), (56, .iload_n 1, 1), (57, .iconst 0, 1), (58, .iload_n 2, 1), (59, .iload_n 3, 1), (60, .invokevirtual 163, 3), (63, .iload_n 3, 1), (64, .iconst (-1), 1), (65, .if_icmp .eq 7, 3), (68, .iconst 1, 1), (69, .goto 4, 3), (72, .iconst 0, 1), (73, .ireturn, 1)]
theorem dt_X6_readHearing : wg_dc cX6_readHearing tb_X6_readHearing := by unfold wg_dc; decide +kernel
def f_X6_readHearing  (x0 : Nat) (x1 : Int32) (σ : wg_M) : Option (Int32 × wg_M) := wg_bd (f_X6_expect x0 (274 : Int32) σ) (fun v1 s2 => if v1 = 0 then (some ((0 : Int32), s2)) else (wg_bd (f_X6_readNumber x0 (0 : Int32) ((s2 (wg_r Sc (wg_r Sc x0 0) 0) 6) - (1 : Int32)) s2) (fun v3 s4 => if v3 = (-1 : Int32) then (some ((0 : Int32), s4)) else (wg_bd (f_X6_expect x0 (275 : Int32) s4) (fun v5 s6 => if v5 = 0 then (some ((0 : Int32), s6)) else (wg_bd (f_X6_readJudge x0 s6) (fun v7 s8 => wg_bd (f_X4_add (wg_r Sc x0 11) x1 (0 : Int32) v3 v7 s8) (fun _ s9 => if v7 = (-1 : Int32) then (some ((0 : Int32), s9)) else (some ((1 : Int32), s9))))))))))
set_option maxRecDepth 20000 in
theorem g_X6_readHearing_e (l : Launch) (E : wg_E)  (x0 : Nat) (x1 : Int32) (σ : wg_M) (z : Int32 × wg_M) (hx0 : wg_t Sc x0 = 8) (h : f_X6_readHearing  x0 x1 σ = some z) : wg_G l E Sc "WornWigs$Reader" cX6_readHearing 4 (some .boolean) rm_X6_readHearing (some z.1) z.2 0 [some (.ref x0), some (.int x1), none, none] [] σ := by
  refine wr_aload_n (wg_da dt_X6_readHearing 0 rfl) rfl ?_
  refine wr_sipush (274 : Int32) (wg_da dt_X6_readHearing 1 rfl) (by decide) ?_
  refine wr_callVi [.int (274 : Int32)] [] (wg_da dt_X6_readHearing 2 rfl) ⟨wq_4_224, wq_4_226, wq_p2_14⟩ hx0 ⟨rfl, by decide⟩ wy_X6_expect (fun q hq => m_X6_expect l E x0 (274 : Int32) hx0 _ q hq) rfl rfl (Nat.le_of_ble_eq_true rfl) ⟨rfl, rfl, by decide, by decide⟩ h (fun v1 s2 h => ?_)
  refine wr_if_ne 12 (wg_da dt_X6_readHearing 3 rfl) (by decide) h (fun h => ?_) (fun h => ?_)
  · refine wr_iconst (0 : Int32) (wg_da dt_X6_readHearing 4 rfl) (by decide) ?_
    exact wr_zret0 (wg_da dt_X6_readHearing 5 rfl) h
  · refine wr_aload_n (wg_da dt_X6_readHearing 6 rfl) rfl ?_
    refine wr_iconst (0 : Int32) (wg_da dt_X6_readHearing 7 rfl) (by decide) ?_
    refine wr_aload_n (wg_da dt_X6_readHearing 8 rfl) rfl ?_
    refine wr_getR wf_X6_47 (wg_da dt_X6_readHearing 9 rfl) hx0 ?_
    refine wr_getR wf_X6_105 (wg_da dt_X6_readHearing 10 rfl) (wg_ty Sc_ok 6 0 12 hx0 rfl (by decide)).2 ?_
    refine wr_getI wf_X6_173 (wg_da dt_X6_readHearing 11 rfl) (wg_ty Sc_ok 10 0 2 (wg_ty Sc_ok 6 0 12 hx0 rfl (by decide)).2 rfl (by decide)).2 ?_
    refine wr_iconst (1 : Int32) (wg_da dt_X6_readHearing 12 rfl) (by decide) ?_
    refine wr_isub (wg_da dt_X6_readHearing 13 rfl) ?_
    refine wr_callVi [.int (0 : Int32), .int ((s2 (wg_r Sc (wg_r Sc x0 0) 0) 6) - (1 : Int32))] [] (wg_da dt_X6_readHearing 14 rfl) ⟨wq_4_196, wq_4_198, wq_p2_7⟩ hx0 ⟨rfl, by decide⟩ wy_X6_readNumber (fun q hq => m_X6_readNumber l E x0 (0 : Int32) ((s2 (wg_r Sc (wg_r Sc x0 0) 0) 6) - (1 : Int32)) hx0 _ q hq) rfl rfl (Nat.le_of_ble_eq_true rfl) ⟨rfl, rfl, by decide, by decide⟩ h (fun v3 s4 h => ?_)
    refine wr_istore_n (wg_da dt_X6_readHearing 15 rfl) (by decide) ?_
    refine wr_iload_n (wg_da dt_X6_readHearing 16 rfl) rfl ?_
    refine wr_iconst (-1 : Int32) (wg_da dt_X6_readHearing 17 rfl) (by decide) ?_
    refine wr_icmp_eq 45 (wg_da dt_X6_readHearing 18 rfl) (by decide) h (fun h => ?_) (fun h => ?_)
    · refine wr_iconst (0 : Int32) (wg_da dt_X6_readHearing 23 rfl) (by decide) ?_
      exact wr_zret0 (wg_da dt_X6_readHearing 24 rfl) h
    · refine wr_aload_n (wg_da dt_X6_readHearing 19 rfl) rfl ?_
      refine wr_sipush (275 : Int32) (wg_da dt_X6_readHearing 20 rfl) (by decide) ?_
      refine wr_callVi [.int (275 : Int32)] [] (wg_da dt_X6_readHearing 21 rfl) ⟨wq_4_224, wq_4_226, wq_p2_14⟩ hx0 ⟨rfl, by decide⟩ wy_X6_expect (fun q hq => m_X6_expect l E x0 (275 : Int32) hx0 _ q hq) rfl rfl (Nat.le_of_ble_eq_true rfl) ⟨rfl, rfl, by decide, by decide⟩ h (fun v5 s6 h => ?_)
      refine wr_if_ne 47 (wg_da dt_X6_readHearing 22 rfl) (by decide) h (fun h => ?_) (fun h => ?_)
      · refine wr_iconst (0 : Int32) (wg_da dt_X6_readHearing 23 rfl) (by decide) ?_
        exact wr_zret0 (wg_da dt_X6_readHearing 24 rfl) h
      · refine wr_aload_n (wg_da dt_X6_readHearing 25 rfl) rfl ?_
        refine wr_callVi [] [] (wg_da dt_X6_readHearing 26 rfl) ⟨wq_5_18, wq_5_20, wq_p3_4⟩ hx0 ⟨rfl, by decide⟩ wy_X6_readJudge (fun q hq => m_X6_readJudge l E x0 hx0 _ q hq) rfl rfl (Nat.le_of_ble_eq_true rfl) ⟨rfl, rfl, by decide, by decide⟩ h (fun v7 s8 h => ?_)
        refine wr_istore_n (wg_da dt_X6_readHearing 27 rfl) (by decide) ?_
        refine wr_aload_n (wg_da dt_X6_readHearing 28 rfl) rfl ?_
        refine wr_getR wf_X6_40 (wg_da dt_X6_readHearing 29 rfl) hx0 ?_
        refine wr_iload_n (wg_da dt_X6_readHearing 30 rfl) rfl ?_
        refine wr_iconst (0 : Int32) (wg_da dt_X6_readHearing 31 rfl) (by decide) ?_
        refine wr_iload_n (wg_da dt_X6_readHearing 32 rfl) rfl ?_
        refine wr_iload_n (wg_da dt_X6_readHearing 33 rfl) rfl ?_
        refine wr_callVv [.int x1, .int (0 : Int32), .int v3, .int v7] [] (wg_da dt_X6_readHearing 34 rfl) ⟨wq_5_9, wq_3_220, wq_3_221⟩ (wg_ty Sc_ok 6 11 6 hx0 rfl (by decide)).2 ⟨rfl, by decide⟩ wy_X4_add (fun q hq => m_X4_add l E (wg_r Sc x0 11) x1 (0 : Int32) v3 v7 (wg_ty Sc_ok 6 11 6 hx0 rfl (by decide)).2 _ q hq) rfl rfl (Nat.le_of_ble_eq_true rfl) ⟨rfl, rfl, by decide, by decide⟩ h (fun _ s9 h => ?_)
        refine wr_iload_n (wg_da dt_X6_readHearing 35 rfl) rfl ?_
        refine wr_iconst (-1 : Int32) (wg_da dt_X6_readHearing 36 rfl) (by decide) ?_
        refine wr_icmp_eq 72 (wg_da dt_X6_readHearing 37 rfl) (by decide) h (fun h => ?_) (fun h => ?_)
        · refine wr_iconst (0 : Int32) (wg_da dt_X6_readHearing 40 rfl) (by decide) ?_
          exact wr_zret0 (wg_da dt_X6_readHearing 41 rfl) h
        · refine wr_iconst (1 : Int32) (wg_da dt_X6_readHearing 38 rfl) (by decide) ?_
          refine wr_goto 73 (wg_da dt_X6_readHearing 39 rfl) (by decide) ?_
          exact wr_zret1 (wg_da dt_X6_readHearing 41 rfl) h
theorem m_X6_readHearing (l : Launch) (E : wg_E) (x0 : Nat) (x1 : Int32) (hx0 : wg_t Sc x0 = 8) (σ : wg_M) (q : Int32 × wg_M) (h : f_X6_readHearing x0 x1 σ = some q) : wg_MG l E Sc yX6_readHearing cX6_readHearing 4 (some .boolean) rm_X6_readHearing [.ref x0, .int x1] σ (some q.1) q.2 :=
  wg_met [.ref x0, .int x1] (plainFor_of_name (by decide)) (Nat.le_of_ble_eq_true rfl) (g_X6_readHearing_e l E x0 x1 σ q hx0 h)
abbrev rm_X6_readLoan : Room := { frames := 3, cells := 0, slots := 0, locals := 64 }
def tb_X6_readLoan : List (Nat × Instr × Nat) := [(0, .aload_n 0, 1), (1, .getfield 15, 3), (4, .aload_n 0, 1), (5, .getfield 57, 3), (8, .iaload, 1), (9, .istore_n 2, 1), (10, .iload_n 2, 1), (11, .sipush 276, 3), (14, .if_icmp .eq 30, 3), (17, .iload_n 2, 1), (18, .sipush 278, 3), (21, .if_icmp .eq 23, 3), (24, .iload_n 2, 1), (25, .sipush 279, 3), (28, .if_icmp .eq 16, 3), (31, .iload_n 2, 1), (32, .sipush 280, 3), (35, .if_icmp .eq 9, 3), (38, .aload_n 0, 1), (39, .iconst 1, 1), (40, .invokevirtual 102, 3), (43, .ireturn, 1), (44, .aload_n 0, 1), (45, .dup, 1), (46, .getfield 57, 3), (49, .iconst 1, 1), (50, .iadd, 1), (51, .putfield 57, 3), (54, .aload_n 0, 1), (55, .invokevirtual 160, 3), (58, .istore_n 3, 1), (59, .iload_n 3, 1), (60, .iconst (-1), 1), (61, .if_icmp .ne 5, 3), (64, .iconst 0, 1), (65, .ireturn, 1), (66, .iconst 1, 1), (67, .istore 4, 2), (69, .iconst 0, 1), (70, .istore 5, 2), (72, .iload_n 2, 1), (73, .sipush 276, 3), (76, .if_icmp .ne 29, 3), (79, .iconst 0, 1), (80, .istore 4, 2), (82, .aload_n 0, 1), (83, .sipush 277, 3), (86, .invokevirtual 153, 3), (89, .ifCond .eq 10, 3), (92, .aload_n 0, 1), (93, .invokevirtual 176, 3), (96, .goto 4, 3), (99, .iconst (-1), 1), (100, .istore 5, 2), (102, .goto 44, 3), (105, .iload_n 2, 1), (106, .sipush 279, 3), (109, .if_icmp .ne 18, 3), (112, .iconst 2, 1), (113, .istore 4, 2), (115, .aload_n 0, 1), (116, .iconst 0, 1), (117, .bipush 7, 2), (119, .invokevirtual 122, 3), (122, .istore 5, 2), (124, .goto 22, 3), (127, .iload_n 2, 1), (128, .sipush 280, 3), (131, .if_icmp .ne 15, 3), (134, .iconst 3, 1), (135, .istore 4, 2), (137, .aload_n 0, 1), (138, .iconst 1, 1), (139, .bipush 99, 2), (141, .invokevirtual 122, 3), (144, .istore 5, 2), (146, .aload_n 0, 1), (147, .getfield 40, 3), (150, .iload_n 1, 1), (151, .iload 4, 2), (153, .iload_n 3, 1), (154, .iload 5, 2), (156, .invokevirtual 163, 3), (159, .iload 5, 2), (161, .iconst (-1), 1), (162, .if_icmp .eq 7, 3), (165, .iconst 1, 1), (166, .goto 4, 3), (169, .iconst 0, 1), (170, .ireturn, 1)]
theorem dt_X6_readLoan : wg_dc cX6_readLoan tb_X6_readLoan := by unfold wg_dc; decide +kernel
def f_X6_readLoan_146  (x0 : Nat) (x1 : Int32) (x3 : Int32) (x4 : Int32) (x5 : Int32) (σ : wg_M) : Option (Int32 × wg_M) := wg_bd (f_X4_add (wg_r Sc x0 11) x1 x4 x3 x5 σ) (fun _ s1 => if x5 = (-1 : Int32) then (some ((0 : Int32), s1)) else (some ((1 : Int32), s1)))
def f_X6_readLoan_100  (x0 : Nat) (x1 : Int32) (x3 : Int32) (x4 : Int32) (t0 : Int32) (σ : wg_M) : Option (Int32 × wg_M) := f_X6_readLoan_146  x0 x1 x3 x4 t0 σ
def f_X6_readLoan_44  (x0 : Nat) (x1 : Int32) (x2 : Int32) (σ : wg_M) : Option (Int32 × wg_M) := wg_st σ x0 7 ((σ x0 7) + (1 : Int32)) (fun s1 => wg_bd (f_X6_readWig x0 s1) (fun v2 s3 => if v2 = (-1 : Int32) then (some ((0 : Int32), s3)) else (if x2 = (276 : Int32) then (wg_bd (f_X6_expect x0 (277 : Int32) s3) (fun v8 s9 => if v8 = 0 then (f_X6_readLoan_100  x0 x1 v2 (0 : Int32) (-1 : Int32) s9) else (wg_bd (f_X6_readJudge x0 s9) (fun v10 s11 => f_X6_readLoan_100  x0 x1 v2 (0 : Int32) v10 s11)))) else (if x2 = (279 : Int32) then (wg_bd (f_X6_readNumber x0 (0 : Int32) (7 : Int32) s3) (fun v6 s7 => f_X6_readLoan_146  x0 x1 v2 (2 : Int32) v6 s7)) else (if x2 = (280 : Int32) then (wg_bd (f_X6_readNumber x0 (1 : Int32) (99 : Int32) s3) (fun v4 s5 => f_X6_readLoan_146  x0 x1 v2 (3 : Int32) v4 s5)) else (f_X6_readLoan_146  x0 x1 v2 (1 : Int32) (0 : Int32) s3))))))
def f_X6_readLoan  (x0 : Nat) (x1 : Int32) (σ : wg_M) : Option (Int32 × wg_M) := wg_ga (wg_n Sc (wg_r Sc x0 3)) (σ (wg_r Sc x0 3)) (σ x0 7) (fun v1 => if v1 = (276 : Int32) then (f_X6_readLoan_44  x0 x1 v1 σ) else (if v1 = (278 : Int32) then (f_X6_readLoan_44  x0 x1 v1 σ) else (if v1 = (279 : Int32) then (f_X6_readLoan_44  x0 x1 v1 σ) else (if v1 = (280 : Int32) then (f_X6_readLoan_44  x0 x1 v1 σ) else (wg_bd (f_X6_fail x0 (1 : Int32) σ) (fun v2 s3 => wg_bz v2 (some (v2, s3))))))))
set_option maxRecDepth 20000 in
theorem g_X6_readLoan_146 (l : Launch) (E : wg_E)  (x0 : Nat) (x1 : Int32) (x3 : Int32) (x4 : Int32) (x5 : Int32) (σ : wg_M) (z : Int32 × wg_M) (hx0 : wg_t Sc x0 = 8) (h : f_X6_readLoan_146  x0 x1 x3 x4 x5 σ = some z) : wg_G l E Sc "WornWigs$Reader" cX6_readLoan 6 (some .boolean) rm_X6_readLoan (some z.1) z.2 146 [some (.ref x0), some (.int x1), none, some (.int x3), some (.int x4), some (.int x5)] [] σ := by
  refine wr_aload_n (wg_da dt_X6_readLoan 76 rfl) rfl ?_
  refine wr_getR wf_X6_40 (wg_da dt_X6_readLoan 77 rfl) hx0 ?_
  refine wr_iload_n (wg_da dt_X6_readLoan 78 rfl) rfl ?_
  refine wr_iload (wg_da dt_X6_readLoan 79 rfl) rfl ?_
  refine wr_iload_n (wg_da dt_X6_readLoan 80 rfl) rfl ?_
  refine wr_iload (wg_da dt_X6_readLoan 81 rfl) rfl ?_
  refine wr_callVv [.int x1, .int x4, .int x3, .int x5] [] (wg_da dt_X6_readLoan 82 rfl) ⟨wq_5_9, wq_3_220, wq_3_221⟩ (wg_ty Sc_ok 6 11 6 hx0 rfl (by decide)).2 ⟨rfl, by decide⟩ wy_X4_add (fun q hq => m_X4_add l E (wg_r Sc x0 11) x1 x4 x3 x5 (wg_ty Sc_ok 6 11 6 hx0 rfl (by decide)).2 _ q hq) rfl rfl (Nat.le_of_ble_eq_true rfl) ⟨rfl, rfl, by decide, by decide⟩ h (fun _ s1 h => ?_)
  refine wr_iload (wg_da dt_X6_readLoan 83 rfl) rfl ?_
  refine wr_iconst (-1 : Int32) (wg_da dt_X6_readLoan 84 rfl) (by decide) ?_
  refine wr_icmp_eq 169 (wg_da dt_X6_readLoan 85 rfl) (by decide) h (fun h => ?_) (fun h => ?_)
  · refine wr_iconst (0 : Int32) (wg_da dt_X6_readLoan 88 rfl) (by decide) ?_
    exact wr_zret0 (wg_da dt_X6_readLoan 89 rfl) h
  · refine wr_iconst (1 : Int32) (wg_da dt_X6_readLoan 86 rfl) (by decide) ?_
    refine wr_goto 170 (wg_da dt_X6_readLoan 87 rfl) (by decide) ?_
    exact wr_zret1 (wg_da dt_X6_readLoan 89 rfl) h
set_option maxRecDepth 20000 in
theorem g_X6_readLoan_100 (l : Launch) (E : wg_E)  (x0 : Nat) (x1 : Int32) (x3 : Int32) (x4 : Int32) (t0 : Int32) (σ : wg_M) (z : Int32 × wg_M) (hx0 : wg_t Sc x0 = 8) (h : f_X6_readLoan_100  x0 x1 x3 x4 t0 σ = some z) : wg_G l E Sc "WornWigs$Reader" cX6_readLoan 6 (some .boolean) rm_X6_readLoan (some z.1) z.2 100 [some (.ref x0), some (.int x1), none, some (.int x3), some (.int x4), none] [.int t0] σ := by
  refine wr_istore (wg_da dt_X6_readLoan 53 rfl) (by decide) ?_
  refine wr_goto 146 (wg_da dt_X6_readLoan 54 rfl) (by decide) ?_
  exact wr_wk [true, true, false, true, true, true] (g_X6_readLoan_146 l E  x0 x1 x3 x4 t0 σ _ hx0  h)
set_option maxRecDepth 20000 in
theorem g_X6_readLoan_44 (l : Launch) (E : wg_E)  (x0 : Nat) (x1 : Int32) (x2 : Int32) (σ : wg_M) (z : Int32 × wg_M) (hx0 : wg_t Sc x0 = 8) (h : f_X6_readLoan_44  x0 x1 x2 σ = some z) : wg_G l E Sc "WornWigs$Reader" cX6_readLoan 6 (some .boolean) rm_X6_readLoan (some z.1) z.2 44 [some (.ref x0), some (.int x1), some (.int x2), none, none, none] [] σ := by
  refine wr_aload_n (wg_da dt_X6_readLoan 22 rfl) rfl ?_
  refine wr_dup (wg_da dt_X6_readLoan 23 rfl) ?_
  refine wr_getI wf_X6_57 (wg_da dt_X6_readLoan 24 rfl) hx0 ?_
  refine wr_iconst (1 : Int32) (wg_da dt_X6_readLoan 25 rfl) (by decide) ?_
  refine wr_iadd (wg_da dt_X6_readLoan 26 rfl) ?_
  refine wr_putI wfp_X6_57 (wg_da dt_X6_readLoan 27 rfl) hx0 h (fun s1 h => ?_)
  refine wr_aload_n (wg_da dt_X6_readLoan 28 rfl) rfl ?_
  refine wr_callVi [] [] (wg_da dt_X6_readLoan 29 rfl) ⟨wq_5_5, wq_5_7, wq_p3_1⟩ hx0 ⟨rfl, by decide⟩ wy_X6_readWig (fun q hq => m_X6_readWig l E x0 hx0 _ q hq) rfl rfl (Nat.le_of_ble_eq_true rfl) ⟨rfl, rfl, by decide, by decide⟩ h (fun v2 s3 h => ?_)
  refine wr_istore_n (wg_da dt_X6_readLoan 30 rfl) (by decide) ?_
  refine wr_iload_n (wg_da dt_X6_readLoan 31 rfl) rfl ?_
  refine wr_iconst (-1 : Int32) (wg_da dt_X6_readLoan 32 rfl) (by decide) ?_
  refine wr_icmp_ne 66 (wg_da dt_X6_readLoan 33 rfl) (by decide) h (fun h => ?_) (fun h => ?_)
  · refine wr_iconst (0 : Int32) (wg_da dt_X6_readLoan 34 rfl) (by decide) ?_
    exact wr_zret0 (wg_da dt_X6_readLoan 35 rfl) h
  · refine wr_iconst (1 : Int32) (wg_da dt_X6_readLoan 36 rfl) (by decide) ?_
    refine wr_istore (wg_da dt_X6_readLoan 37 rfl) (by decide) ?_
    refine wr_iconst (0 : Int32) (wg_da dt_X6_readLoan 38 rfl) (by decide) ?_
    refine wr_istore (wg_da dt_X6_readLoan 39 rfl) (by decide) ?_
    refine wr_iload_n (wg_da dt_X6_readLoan 40 rfl) rfl ?_
    refine wr_sipush (276 : Int32) (wg_da dt_X6_readLoan 41 rfl) (by decide) ?_
    refine wr_icmp_ne 105 (wg_da dt_X6_readLoan 42 rfl) (by decide) h (fun h => ?_) (fun h => ?_)
    · refine wr_iconst (0 : Int32) (wg_da dt_X6_readLoan 43 rfl) (by decide) ?_
      refine wr_istore (wg_da dt_X6_readLoan 44 rfl) (by decide) ?_
      refine wr_aload_n (wg_da dt_X6_readLoan 45 rfl) rfl ?_
      refine wr_sipush (277 : Int32) (wg_da dt_X6_readLoan 46 rfl) (by decide) ?_
      refine wr_callVi [.int (277 : Int32)] [] (wg_da dt_X6_readLoan 47 rfl) ⟨wq_4_224, wq_4_226, wq_p2_14⟩ hx0 ⟨rfl, by decide⟩ wy_X6_expect (fun q hq => m_X6_expect l E x0 (277 : Int32) hx0 _ q hq) rfl rfl (Nat.le_of_ble_eq_true rfl) ⟨rfl, rfl, by decide, by decide⟩ h (fun v8 s9 h => ?_)
      refine wr_if_eq 99 (wg_da dt_X6_readLoan 48 rfl) (by decide) h (fun h => ?_) (fun h => ?_)
      · refine wr_iconst (-1 : Int32) (wg_da dt_X6_readLoan 52 rfl) (by decide) ?_
        exact wr_wk [true, true, false, true, true, false] (g_X6_readLoan_100 l E  x0 x1 v2 (0 : Int32) (-1 : Int32) s9 _ hx0  h)
      · refine wr_aload_n (wg_da dt_X6_readLoan 49 rfl) rfl ?_
        refine wr_callVi [] [] (wg_da dt_X6_readLoan 50 rfl) ⟨wq_5_18, wq_5_20, wq_p3_4⟩ hx0 ⟨rfl, by decide⟩ wy_X6_readJudge (fun q hq => m_X6_readJudge l E x0 hx0 _ q hq) rfl rfl (Nat.le_of_ble_eq_true rfl) ⟨rfl, rfl, by decide, by decide⟩ h (fun v10 s11 h => ?_)
        refine wr_goto 100 (wg_da dt_X6_readLoan 51 rfl) (by decide) ?_
        exact wr_wk [true, true, false, true, true, false] (g_X6_readLoan_100 l E  x0 x1 v2 (0 : Int32) v10 s11 _ hx0  h)
    · refine wr_iload_n (wg_da dt_X6_readLoan 55 rfl) rfl ?_
      refine wr_sipush (279 : Int32) (wg_da dt_X6_readLoan 56 rfl) (by decide) ?_
      refine wr_icmp_ne 127 (wg_da dt_X6_readLoan 57 rfl) (by decide) h (fun h => ?_) (fun h => ?_)
      · refine wr_iconst (2 : Int32) (wg_da dt_X6_readLoan 58 rfl) (by decide) ?_
        refine wr_istore (wg_da dt_X6_readLoan 59 rfl) (by decide) ?_
        refine wr_aload_n (wg_da dt_X6_readLoan 60 rfl) rfl ?_
        refine wr_iconst (0 : Int32) (wg_da dt_X6_readLoan 61 rfl) (by decide) ?_
        refine wr_bipush (7 : Int32) (wg_da dt_X6_readLoan 62 rfl) (by decide) ?_
        refine wr_callVi [.int (0 : Int32), .int (7 : Int32)] [] (wg_da dt_X6_readLoan 63 rfl) ⟨wq_4_196, wq_4_198, wq_p2_7⟩ hx0 ⟨rfl, by decide⟩ wy_X6_readNumber (fun q hq => m_X6_readNumber l E x0 (0 : Int32) (7 : Int32) hx0 _ q hq) rfl rfl (Nat.le_of_ble_eq_true rfl) ⟨rfl, rfl, by decide, by decide⟩ h (fun v6 s7 h => ?_)
        refine wr_istore (wg_da dt_X6_readLoan 64 rfl) (by decide) ?_
        refine wr_goto 146 (wg_da dt_X6_readLoan 65 rfl) (by decide) ?_
        exact wr_wk [true, true, false, true, true, true] (g_X6_readLoan_146 l E  x0 x1 v2 (2 : Int32) v6 s7 _ hx0  h)
      · refine wr_iload_n (wg_da dt_X6_readLoan 66 rfl) rfl ?_
        refine wr_sipush (280 : Int32) (wg_da dt_X6_readLoan 67 rfl) (by decide) ?_
        refine wr_icmp_ne 146 (wg_da dt_X6_readLoan 68 rfl) (by decide) h (fun h => ?_) (fun h => ?_)
        · refine wr_iconst (3 : Int32) (wg_da dt_X6_readLoan 69 rfl) (by decide) ?_
          refine wr_istore (wg_da dt_X6_readLoan 70 rfl) (by decide) ?_
          refine wr_aload_n (wg_da dt_X6_readLoan 71 rfl) rfl ?_
          refine wr_iconst (1 : Int32) (wg_da dt_X6_readLoan 72 rfl) (by decide) ?_
          refine wr_bipush (99 : Int32) (wg_da dt_X6_readLoan 73 rfl) (by decide) ?_
          refine wr_callVi [.int (1 : Int32), .int (99 : Int32)] [] (wg_da dt_X6_readLoan 74 rfl) ⟨wq_4_196, wq_4_198, wq_p2_7⟩ hx0 ⟨rfl, by decide⟩ wy_X6_readNumber (fun q hq => m_X6_readNumber l E x0 (1 : Int32) (99 : Int32) hx0 _ q hq) rfl rfl (Nat.le_of_ble_eq_true rfl) ⟨rfl, rfl, by decide, by decide⟩ h (fun v4 s5 h => ?_)
          refine wr_istore (wg_da dt_X6_readLoan 75 rfl) (by decide) ?_
          exact wr_wk [true, true, false, true, true, true] (g_X6_readLoan_146 l E  x0 x1 v2 (3 : Int32) v4 s5 _ hx0  h)
        · exact wr_wk [true, true, false, true, true, true] (g_X6_readLoan_146 l E  x0 x1 v2 (1 : Int32) (0 : Int32) s3 _ hx0  h)
set_option maxRecDepth 20000 in
theorem g_X6_readLoan_e (l : Launch) (E : wg_E)  (x0 : Nat) (x1 : Int32) (σ : wg_M) (z : Int32 × wg_M) (hx0 : wg_t Sc x0 = 8) (h : f_X6_readLoan  x0 x1 σ = some z) : wg_G l E Sc "WornWigs$Reader" cX6_readLoan 6 (some .boolean) rm_X6_readLoan (some z.1) z.2 0 [some (.ref x0), some (.int x1), none, none, none, none] [] σ := by
  refine wr_aload_n (wg_da dt_X6_readLoan 0 rfl) rfl ?_
  refine wr_getR wf_X6_15 (wg_da dt_X6_readLoan 1 rfl) hx0 ?_
  refine wr_aload_n (wg_da dt_X6_readLoan 2 rfl) rfl ?_
  refine wr_getI wf_X6_57 (wg_da dt_X6_readLoan 3 rfl) hx0 ?_
  refine wr_iald (wg_da dt_X6_readLoan 4 rfl) (wg_ty Sc_ok 6 3 0 hx0 rfl (by decide)).2 h (fun v1 h => ?_)
  refine wr_istore_n (wg_da dt_X6_readLoan 5 rfl) (by decide) ?_
  refine wr_iload_n (wg_da dt_X6_readLoan 6 rfl) rfl ?_
  refine wr_sipush (276 : Int32) (wg_da dt_X6_readLoan 7 rfl) (by decide) ?_
  refine wr_icmp_eq 44 (wg_da dt_X6_readLoan 8 rfl) (by decide) h (fun h => ?_) (fun h => ?_)
  · exact wr_wk [true, true, true, false, false, false] (g_X6_readLoan_44 l E  x0 x1 v1 σ _ hx0  h)
  · refine wr_iload_n (wg_da dt_X6_readLoan 9 rfl) rfl ?_
    refine wr_sipush (278 : Int32) (wg_da dt_X6_readLoan 10 rfl) (by decide) ?_
    refine wr_icmp_eq 44 (wg_da dt_X6_readLoan 11 rfl) (by decide) h (fun h => ?_) (fun h => ?_)
    · exact wr_wk [true, true, true, false, false, false] (g_X6_readLoan_44 l E  x0 x1 v1 σ _ hx0  h)
    · refine wr_iload_n (wg_da dt_X6_readLoan 12 rfl) rfl ?_
      refine wr_sipush (279 : Int32) (wg_da dt_X6_readLoan 13 rfl) (by decide) ?_
      refine wr_icmp_eq 44 (wg_da dt_X6_readLoan 14 rfl) (by decide) h (fun h => ?_) (fun h => ?_)
      · exact wr_wk [true, true, true, false, false, false] (g_X6_readLoan_44 l E  x0 x1 v1 σ _ hx0  h)
      · refine wr_iload_n (wg_da dt_X6_readLoan 15 rfl) rfl ?_
        refine wr_sipush (280 : Int32) (wg_da dt_X6_readLoan 16 rfl) (by decide) ?_
        refine wr_icmp_eq 44 (wg_da dt_X6_readLoan 17 rfl) (by decide) h (fun h => ?_) (fun h => ?_)
        · exact wr_wk [true, true, true, false, false, false] (g_X6_readLoan_44 l E  x0 x1 v1 σ _ hx0  h)
        · refine wr_aload_n (wg_da dt_X6_readLoan 18 rfl) rfl ?_
          refine wr_iconst (1 : Int32) (wg_da dt_X6_readLoan 19 rfl) (by decide) ?_
          refine wr_callVi [.int (1 : Int32)] [] (wg_da dt_X6_readLoan 20 rfl) ⟨wq_4_176, wq_4_178, wq_p2_3⟩ hx0 ⟨rfl, by decide⟩ wy_X6_fail (fun q hq => m_X6_fail l E x0 (1 : Int32) hx0 _ q hq) rfl rfl (Nat.le_of_ble_eq_true rfl) ⟨rfl, rfl, by decide, by decide⟩ h (fun v2 s3 h => ?_)
          exact wr_zret (wg_da dt_X6_readLoan 21 rfl) h
theorem m_X6_readLoan (l : Launch) (E : wg_E) (x0 : Nat) (x1 : Int32) (hx0 : wg_t Sc x0 = 8) (σ : wg_M) (q : Int32 × wg_M) (h : f_X6_readLoan x0 x1 σ = some q) : wg_MG l E Sc yX6_readLoan cX6_readLoan 6 (some .boolean) rm_X6_readLoan [.ref x0, .int x1] σ (some q.1) q.2 :=
  wg_met [.ref x0, .int x1] (plainFor_of_name (by decide)) (Nat.le_of_ble_eq_true rfl) (g_X6_readLoan_e l E x0 x1 σ q hx0 h)
abbrev rm_X6_readPlanLine : Room := { frames := 4, cells := 0, slots := 0, locals := 89 }
def tb_X6_readPlanLine : List (Nat × Instr × Nat) := [(0, .aload_n 0, 1), (1, .sipush 273, 3), (4, .aload_n 0, 1), (5, .getfield 40, 3), (8, .getfield 132, 3), (11, .invokevirtual 156, 3), (14, .ifCond .ne 5, 3), (17, .iconst 0, 1), (18, .ireturn, 1), (19, .aload_n 0, 1), (20, .iconst 0, 1), (21, .sipush 999, 3), (24, .invokevirtual 122, 3), (27, .istore_n 2, 1), (28, .iload_n 2, 1), (29, .iconst (-1), 1), (30, .if_icmp .ne 5, 3), (33, .iconst 0, 1), (34, .ireturn, 1), (35, .iload_n 1, 1), (36, .iconst 1, 1), (37, .if_icmp .ne 11, 3), (40, .aload_n 0, 1), (41, .iload_n 2, 1), (42, .invokevirtual 167, 3), (45, .goto 8, 3), (48, .aload_n 0, 1), (49, .iload_n 2, 1), (50, .invokevirtual 170, 3), (53, .istore_n 3, 1), (54, .iload_n 3, 1), (55, .ifCond .eq 16, 3), (58, .aload_n 0, 1), (59, .bipush 59, 2), (61, .invokevirtual 153, 3), (64, .ifCond .eq 7, 3), (67, .iconst 1, 1), (68, .goto 4, 3), (71, .iconst 0, 1), (72, .ireturn, 1)]
theorem dt_X6_readPlanLine : wg_dc cX6_readPlanLine tb_X6_readPlanLine := by unfold wg_dc; decide +kernel
def f_X6_readPlanLine_53  (x0 : Nat) (t0 : Int32) (σ : wg_M) : Option (Int32 × wg_M) := if t0 = 0 then (some ((0 : Int32), σ)) else (wg_bd (f_X6_expect x0 (59 : Int32) σ) (fun v1 s2 => if v1 = 0 then (some ((0 : Int32), s2)) else (some ((1 : Int32), s2))))
def f_X6_readPlanLine  (x0 : Nat) (x1 : Int32) (σ : wg_M) : Option (Int32 × wg_M) := wg_bd (f_X6_expectFirst x0 (273 : Int32) (σ (wg_r Sc x0 11) 4) σ) (fun v1 s2 => if v1 = 0 then (some ((0 : Int32), s2)) else (wg_bd (f_X6_readNumber x0 (0 : Int32) (999 : Int32) s2) (fun v3 s4 => if v3 = (-1 : Int32) then (some ((0 : Int32), s4)) else (if x1 = (1 : Int32) then (wg_bd (f_X6_readHearing x0 v3 s4) (fun v7 s8 => f_X6_readPlanLine_53  x0 v7 s8)) else (wg_bd (f_X6_readLoan x0 v3 s4) (fun v5 s6 => f_X6_readPlanLine_53  x0 v5 s6))))))
set_option maxRecDepth 20000 in
theorem g_X6_readPlanLine_53 (l : Launch) (E : wg_E)  (x0 : Nat) (t0 : Int32) (σ : wg_M) (z : Int32 × wg_M) (hx0 : wg_t Sc x0 = 8) (h : f_X6_readPlanLine_53  x0 t0 σ = some z) : wg_G l E Sc "WornWigs$Reader" cX6_readPlanLine 4 (some .boolean) rm_X6_readPlanLine (some z.1) z.2 53 [some (.ref x0), none, none, none] [.int t0] σ := by
  refine wr_istore_n (wg_da dt_X6_readPlanLine 29 rfl) (by decide) ?_
  refine wr_iload_n (wg_da dt_X6_readPlanLine 30 rfl) rfl ?_
  refine wr_if_eq 71 (wg_da dt_X6_readPlanLine 31 rfl) (by decide) h (fun h => ?_) (fun h => ?_)
  · refine wr_iconst (0 : Int32) (wg_da dt_X6_readPlanLine 38 rfl) (by decide) ?_
    exact wr_zret0 (wg_da dt_X6_readPlanLine 39 rfl) h
  · refine wr_aload_n (wg_da dt_X6_readPlanLine 32 rfl) rfl ?_
    refine wr_bipush (59 : Int32) (wg_da dt_X6_readPlanLine 33 rfl) (by decide) ?_
    refine wr_callVi [.int (59 : Int32)] [] (wg_da dt_X6_readPlanLine 34 rfl) ⟨wq_4_224, wq_4_226, wq_p2_14⟩ hx0 ⟨rfl, by decide⟩ wy_X6_expect (fun q hq => m_X6_expect l E x0 (59 : Int32) hx0 _ q hq) rfl rfl (Nat.le_of_ble_eq_true rfl) ⟨rfl, rfl, by decide, by decide⟩ h (fun v1 s2 h => ?_)
    refine wr_if_eq 71 (wg_da dt_X6_readPlanLine 35 rfl) (by decide) h (fun h => ?_) (fun h => ?_)
    · refine wr_iconst (0 : Int32) (wg_da dt_X6_readPlanLine 38 rfl) (by decide) ?_
      exact wr_zret0 (wg_da dt_X6_readPlanLine 39 rfl) h
    · refine wr_iconst (1 : Int32) (wg_da dt_X6_readPlanLine 36 rfl) (by decide) ?_
      refine wr_goto 72 (wg_da dt_X6_readPlanLine 37 rfl) (by decide) ?_
      exact wr_zret1 (wg_da dt_X6_readPlanLine 39 rfl) h
set_option maxRecDepth 20000 in
theorem g_X6_readPlanLine_e (l : Launch) (E : wg_E)  (x0 : Nat) (x1 : Int32) (σ : wg_M) (z : Int32 × wg_M) (hx0 : wg_t Sc x0 = 8) (h : f_X6_readPlanLine  x0 x1 σ = some z) : wg_G l E Sc "WornWigs$Reader" cX6_readPlanLine 4 (some .boolean) rm_X6_readPlanLine (some z.1) z.2 0 [some (.ref x0), some (.int x1), none, none] [] σ := by
  refine wr_aload_n (wg_da dt_X6_readPlanLine 0 rfl) rfl ?_
  refine wr_sipush (273 : Int32) (wg_da dt_X6_readPlanLine 1 rfl) (by decide) ?_
  refine wr_aload_n (wg_da dt_X6_readPlanLine 2 rfl) rfl ?_
  refine wr_getR wf_X6_40 (wg_da dt_X6_readPlanLine 3 rfl) hx0 ?_
  refine wr_getI wf_X6_132 (wg_da dt_X6_readPlanLine 4 rfl) (wg_ty Sc_ok 6 11 6 hx0 rfl (by decide)).2 ?_
  refine wr_callVi [.int (273 : Int32), .int (σ (wg_r Sc x0 11) 4)] [] (wg_da dt_X6_readPlanLine 5 rfl) ⟨wq_5_1, wq_5_3, wq_p3_0⟩ hx0 ⟨rfl, by decide⟩ wy_X6_expectFirst (fun q hq => m_X6_expectFirst l E x0 (273 : Int32) (σ (wg_r Sc x0 11) 4) hx0 _ q hq) rfl rfl (Nat.le_of_ble_eq_true rfl) ⟨rfl, rfl, by decide, by decide⟩ h (fun v1 s2 h => ?_)
  refine wr_if_ne 19 (wg_da dt_X6_readPlanLine 6 rfl) (by decide) h (fun h => ?_) (fun h => ?_)
  · refine wr_iconst (0 : Int32) (wg_da dt_X6_readPlanLine 7 rfl) (by decide) ?_
    exact wr_zret0 (wg_da dt_X6_readPlanLine 8 rfl) h
  · refine wr_aload_n (wg_da dt_X6_readPlanLine 9 rfl) rfl ?_
    refine wr_iconst (0 : Int32) (wg_da dt_X6_readPlanLine 10 rfl) (by decide) ?_
    refine wr_sipush (999 : Int32) (wg_da dt_X6_readPlanLine 11 rfl) (by decide) ?_
    refine wr_callVi [.int (0 : Int32), .int (999 : Int32)] [] (wg_da dt_X6_readPlanLine 12 rfl) ⟨wq_4_196, wq_4_198, wq_p2_7⟩ hx0 ⟨rfl, by decide⟩ wy_X6_readNumber (fun q hq => m_X6_readNumber l E x0 (0 : Int32) (999 : Int32) hx0 _ q hq) rfl rfl (Nat.le_of_ble_eq_true rfl) ⟨rfl, rfl, by decide, by decide⟩ h (fun v3 s4 h => ?_)
    refine wr_istore_n (wg_da dt_X6_readPlanLine 13 rfl) (by decide) ?_
    refine wr_iload_n (wg_da dt_X6_readPlanLine 14 rfl) rfl ?_
    refine wr_iconst (-1 : Int32) (wg_da dt_X6_readPlanLine 15 rfl) (by decide) ?_
    refine wr_icmp_ne 35 (wg_da dt_X6_readPlanLine 16 rfl) (by decide) h (fun h => ?_) (fun h => ?_)
    · refine wr_iconst (0 : Int32) (wg_da dt_X6_readPlanLine 17 rfl) (by decide) ?_
      exact wr_zret0 (wg_da dt_X6_readPlanLine 18 rfl) h
    · refine wr_iload_n (wg_da dt_X6_readPlanLine 19 rfl) rfl ?_
      refine wr_iconst (1 : Int32) (wg_da dt_X6_readPlanLine 20 rfl) (by decide) ?_
      refine wr_icmp_ne 48 (wg_da dt_X6_readPlanLine 21 rfl) (by decide) h (fun h => ?_) (fun h => ?_)
      · refine wr_aload_n (wg_da dt_X6_readPlanLine 22 rfl) rfl ?_
        refine wr_iload_n (wg_da dt_X6_readPlanLine 23 rfl) rfl ?_
        refine wr_callVi [.int v3] [] (wg_da dt_X6_readPlanLine 24 rfl) ⟨wq_5_14, wq_5_16, wq_p3_3⟩ hx0 ⟨rfl, by decide⟩ wy_X6_readHearing (fun q hq => m_X6_readHearing l E x0 v3 hx0 _ q hq) rfl rfl (Nat.le_of_ble_eq_true rfl) ⟨rfl, rfl, by decide, by decide⟩ h (fun v7 s8 h => ?_)
        refine wr_goto 53 (wg_da dt_X6_readPlanLine 25 rfl) (by decide) ?_
        exact wr_wk [true, false, false, false] (g_X6_readPlanLine_53 l E  x0 v7 s8 _ hx0  h)
      · refine wr_aload_n (wg_da dt_X6_readPlanLine 26 rfl) rfl ?_
        refine wr_iload_n (wg_da dt_X6_readPlanLine 27 rfl) rfl ?_
        refine wr_callVi [.int v3] [] (wg_da dt_X6_readPlanLine 28 rfl) ⟨wq_5_22, wq_5_24, wq_p3_5⟩ hx0 ⟨rfl, by decide⟩ wy_X6_readLoan (fun q hq => m_X6_readLoan l E x0 v3 hx0 _ q hq) rfl rfl (Nat.le_of_ble_eq_true rfl) ⟨rfl, rfl, by decide, by decide⟩ h (fun v5 s6 h => ?_)
        exact wr_wk [true, false, false, false] (g_X6_readPlanLine_53 l E  x0 v5 s6 _ hx0  h)
theorem m_X6_readPlanLine (l : Launch) (E : wg_E) (x0 : Nat) (x1 : Int32) (hx0 : wg_t Sc x0 = 8) (σ : wg_M) (q : Int32 × wg_M) (h : f_X6_readPlanLine x0 x1 σ = some q) : wg_MG l E Sc yX6_readPlanLine cX6_readPlanLine 4 (some .boolean) rm_X6_readPlanLine [.ref x0, .int x1] σ (some q.1) q.2 :=
  wg_met [.ref x0, .int x1] (plainFor_of_name (by decide)) (Nat.le_of_ble_eq_true rfl) (g_X6_readPlanLine_e l E x0 x1 σ q hx0 h)
abbrev rm_X6_readLines : Room := { frames := 5, cells := 0, slots := 0, locals := 112 }
def tb_X6_readLines : List (Nat × Instr × Nat) := [(0, .aload_n 0, 1), (1, .getfield 40, 3), (4, .iconst 0, 1), (5, .putfield 132, 3), (8, .iconst 0, 1), (9, .istore_n 2, 1), (10, .iload_n 2, 1), (11, .bipush 16, 2), (13, .if_icmp .gt 46, 3), (16, .aload_n 0, 1), (17, .getfield 15, 3), (20, .aload_n 0, 1), (21, .getfield 57, 3), (24, .iaload, 1), (25, .iconst 1, 1), (26, .if_icmp .eq 33, 3), (29, .iload_n 1, 1), (30, .iconst 3, 1), (31, .if_icmp .ne 10, 3), (34, .aload_n 0, 1), (35, .invokevirtual 133, 3), (38, .goto 8, 3), (41, .aload_n 0, 1), (42, .iload_n 1, 1), (43, .invokevirtual 137, 3), (46, .istore_n 3, 1), (47, .iload_n 3, 1), (48, .ifCond .ne 5, 3), (51, .iconst 0, 1), (52, .ireturn, 1), (53, .iinc 2 1, 3), (56, .goto (-46), 3), (59, .iload_n 1, 1), (60, .iconst 1, 1), (61, .if_icmp .ne 20, 3), (64, .aload_n 0, 1), (65, .getfield 47, 3), (68, .getfield 140, 3), (71, .aload_n 0, 1), (72, .getfield 40, 3), (75, .invokevirtual 143, 3), (78, .goto 39, 3), (81, .iload_n 1, 1), (82, .iconst 2, 1), (83, .if_icmp .ne 20, 3), (86, .aload_n 0, 1), (87, .getfield 47, 3), (90, .getfield 147, 3), (93, .aload_n 0, 1), (94, .getfield 40, 3), (97, .invokevirtual 143, 3), (100, .goto 17, 3), (103, .aload_n 0, 1), (104, .getfield 47, 3), (107, .getfield 150, 3), (110, .aload_n 0, 1), (111, .getfield 40, 3), (114, .invokevirtual 143, 3), (117, .iconst 1, 1), (118, .ireturn, 1)]
theorem dt_X6_readLines : wg_dc cX6_readLines tb_X6_readLines := by unfold wg_dc; decide +kernel
def f_X6_readLines_59  (x0 : Nat) (x1 : Int32) (σ : wg_M) : Option (Int32 × wg_M) := if x1 = (1 : Int32) then (wg_bd (f_X4_copyFrom (wg_r Sc (wg_r Sc x0 0) 3) (wg_r Sc x0 11) σ) (fun _ s3 => some ((1 : Int32), s3))) else (if x1 = (2 : Int32) then (wg_bd (f_X4_copyFrom (wg_r Sc (wg_r Sc x0 0) 4) (wg_r Sc x0 11) σ) (fun _ s2 => some ((1 : Int32), s2))) else (wg_bd (f_X4_copyFrom (wg_r Sc (wg_r Sc x0 0) 5) (wg_r Sc x0 11) σ) (fun _ s1 => some ((1 : Int32), s1))))
def f_X6_readLines_46 (k10 : Nat → Int32 → Int32 → wg_M → Option (Int32 × wg_M)) (x0 : Nat) (x1 : Int32) (x2 : Int32) (t0 : Int32) (σ : wg_M) : Option (Int32 × wg_M) := if t0 = 0 then (some ((0 : Int32), σ)) else (wg_let (x2 + (1 : Int32)) (fun v1 => k10 x0 x1 v1 σ))
def f_X6_readLines_10  : Nat → Nat → Int32 → Int32 → wg_M → Option (Int32 × wg_M)
  | 0, _, _, _, _ => none
  | n + 1, x0, x1, x2, σ => if (16 : Int32) < x2 then (f_X6_readLines_59  x0 x1 σ) else (wg_ga (wg_n Sc (wg_r Sc x0 3)) (σ (wg_r Sc x0 3)) (σ x0 7) (fun v1 => if v1 = (1 : Int32) then (f_X6_readLines_59  x0 x1 σ) else (if x1 = (3 : Int32) then (wg_bd (f_X6_readKinLine x0 σ) (fun v4 s5 => f_X6_readLines_46 (f_X6_readLines_10  n) x0 x1 x2 v4 s5)) else (wg_bd (f_X6_readPlanLine x0 x1 σ) (fun v2 s3 => f_X6_readLines_46 (f_X6_readLines_10  n) x0 x1 x2 v2 s3)))))
def f_X6_readLines  (x0 : Nat) (x1 : Int32) (σ : wg_M) : Option (Int32 × wg_M) := wg_st σ (wg_r Sc x0 11) 4 (0 : Int32) (fun s1 => f_X6_readLines_10  wg_N x0 x1 (0 : Int32) s1)
set_option maxRecDepth 20000 in
theorem g_X6_readLines_59 (l : Launch) (E : wg_E)  (x0 : Nat) (x1 : Int32) (σ : wg_M) (z : Int32 × wg_M) (hx0 : wg_t Sc x0 = 8) (h : f_X6_readLines_59  x0 x1 σ = some z) : wg_G l E Sc "WornWigs$Reader" cX6_readLines 4 (some .boolean) rm_X6_readLines (some z.1) z.2 59 [some (.ref x0), some (.int x1), none, none] [] σ := by
  refine wr_iload_n (wg_da dt_X6_readLines 32 rfl) rfl ?_
  refine wr_iconst (1 : Int32) (wg_da dt_X6_readLines 33 rfl) (by decide) ?_
  refine wr_icmp_ne 81 (wg_da dt_X6_readLines 34 rfl) (by decide) h (fun h => ?_) (fun h => ?_)
  · refine wr_aload_n (wg_da dt_X6_readLines 35 rfl) rfl ?_
    refine wr_getR wf_X6_47 (wg_da dt_X6_readLines 36 rfl) hx0 ?_
    refine wr_getR wf_X6_140 (wg_da dt_X6_readLines 37 rfl) (wg_ty Sc_ok 6 0 12 hx0 rfl (by decide)).2 ?_
    refine wr_aload_n (wg_da dt_X6_readLines 38 rfl) rfl ?_
    refine wr_getR wf_X6_40 (wg_da dt_X6_readLines 39 rfl) hx0 ?_
    refine wr_callVv [.ref (wg_r Sc x0 11)] [] (wg_da dt_X6_readLines 40 rfl) ⟨wq_5_26, wq_5_27, wq_5_28⟩ (wg_ty Sc_ok 10 3 6 (wg_ty Sc_ok 6 0 12 hx0 rfl (by decide)).2 rfl (by decide)).2 ⟨rfl, by decide⟩ wy_X4_copyFrom (fun q hq => m_X4_copyFrom l E (wg_r Sc (wg_r Sc x0 0) 3) (wg_r Sc x0 11) (wg_ty Sc_ok 10 3 6 (wg_ty Sc_ok 6 0 12 hx0 rfl (by decide)).2 rfl (by decide)).2 (wg_ty Sc_ok 6 11 6 hx0 rfl (by decide)).2 _ q hq) rfl rfl (Nat.le_of_ble_eq_true rfl) ⟨rfl, rfl, by decide, by decide⟩ h (fun _ s3 h => ?_)
    refine wr_goto 117 (wg_da dt_X6_readLines 41 rfl) (by decide) ?_
    refine wr_iconst (1 : Int32) (wg_da dt_X6_readLines 58 rfl) (by decide) ?_
    exact wr_zret1 (wg_da dt_X6_readLines 59 rfl) h
  · refine wr_iload_n (wg_da dt_X6_readLines 42 rfl) rfl ?_
    refine wr_iconst (2 : Int32) (wg_da dt_X6_readLines 43 rfl) (by decide) ?_
    refine wr_icmp_ne 103 (wg_da dt_X6_readLines 44 rfl) (by decide) h (fun h => ?_) (fun h => ?_)
    · refine wr_aload_n (wg_da dt_X6_readLines 45 rfl) rfl ?_
      refine wr_getR wf_X6_47 (wg_da dt_X6_readLines 46 rfl) hx0 ?_
      refine wr_getR wf_X6_147 (wg_da dt_X6_readLines 47 rfl) (wg_ty Sc_ok 6 0 12 hx0 rfl (by decide)).2 ?_
      refine wr_aload_n (wg_da dt_X6_readLines 48 rfl) rfl ?_
      refine wr_getR wf_X6_40 (wg_da dt_X6_readLines 49 rfl) hx0 ?_
      refine wr_callVv [.ref (wg_r Sc x0 11)] [] (wg_da dt_X6_readLines 50 rfl) ⟨wq_5_26, wq_5_27, wq_5_28⟩ (wg_ty Sc_ok 10 4 6 (wg_ty Sc_ok 6 0 12 hx0 rfl (by decide)).2 rfl (by decide)).2 ⟨rfl, by decide⟩ wy_X4_copyFrom (fun q hq => m_X4_copyFrom l E (wg_r Sc (wg_r Sc x0 0) 4) (wg_r Sc x0 11) (wg_ty Sc_ok 10 4 6 (wg_ty Sc_ok 6 0 12 hx0 rfl (by decide)).2 rfl (by decide)).2 (wg_ty Sc_ok 6 11 6 hx0 rfl (by decide)).2 _ q hq) rfl rfl (Nat.le_of_ble_eq_true rfl) ⟨rfl, rfl, by decide, by decide⟩ h (fun _ s2 h => ?_)
      refine wr_goto 117 (wg_da dt_X6_readLines 51 rfl) (by decide) ?_
      refine wr_iconst (1 : Int32) (wg_da dt_X6_readLines 58 rfl) (by decide) ?_
      exact wr_zret1 (wg_da dt_X6_readLines 59 rfl) h
    · refine wr_aload_n (wg_da dt_X6_readLines 52 rfl) rfl ?_
      refine wr_getR wf_X6_47 (wg_da dt_X6_readLines 53 rfl) hx0 ?_
      refine wr_getR wf_X6_150 (wg_da dt_X6_readLines 54 rfl) (wg_ty Sc_ok 6 0 12 hx0 rfl (by decide)).2 ?_
      refine wr_aload_n (wg_da dt_X6_readLines 55 rfl) rfl ?_
      refine wr_getR wf_X6_40 (wg_da dt_X6_readLines 56 rfl) hx0 ?_
      refine wr_callVv [.ref (wg_r Sc x0 11)] [] (wg_da dt_X6_readLines 57 rfl) ⟨wq_5_26, wq_5_27, wq_5_28⟩ (wg_ty Sc_ok 10 5 6 (wg_ty Sc_ok 6 0 12 hx0 rfl (by decide)).2 rfl (by decide)).2 ⟨rfl, by decide⟩ wy_X4_copyFrom (fun q hq => m_X4_copyFrom l E (wg_r Sc (wg_r Sc x0 0) 5) (wg_r Sc x0 11) (wg_ty Sc_ok 10 5 6 (wg_ty Sc_ok 6 0 12 hx0 rfl (by decide)).2 rfl (by decide)).2 (wg_ty Sc_ok 6 11 6 hx0 rfl (by decide)).2 _ q hq) rfl rfl (Nat.le_of_ble_eq_true rfl) ⟨rfl, rfl, by decide, by decide⟩ h (fun _ s1 h => ?_)
      refine wr_iconst (1 : Int32) (wg_da dt_X6_readLines 58 rfl) (by decide) ?_
      exact wr_zret1 (wg_da dt_X6_readLines 59 rfl) h
set_option maxRecDepth 20000 in
theorem g_X6_readLines_46 (l : Launch) (E : wg_E) (k10 : Nat → Int32 → Int32 → wg_M → Option (Int32 × wg_M)) (x0 : Nat) (x1 : Int32) (x2 : Int32) (t0 : Int32) (σ : wg_M) (z : Int32 × wg_M) (hx0 : wg_t Sc x0 = 8) (hk10 : ∀ (x0 : Nat) (x1 : Int32) (x2 : Int32) (σ : wg_M), wg_t Sc x0 = 8 → k10 x0 x1 x2 σ = some z → wg_G l E Sc "WornWigs$Reader" cX6_readLines 4 (some .boolean) rm_X6_readLines (some z.1) z.2 10 [some (.ref x0), some (.int x1), some (.int x2), none] [] σ) (h : f_X6_readLines_46 k10 x0 x1 x2 t0 σ = some z) : wg_G l E Sc "WornWigs$Reader" cX6_readLines 4 (some .boolean) rm_X6_readLines (some z.1) z.2 46 [some (.ref x0), some (.int x1), some (.int x2), none] [.int t0] σ := by
  refine wr_istore_n (wg_da dt_X6_readLines 25 rfl) (by decide) ?_
  refine wr_iload_n (wg_da dt_X6_readLines 26 rfl) rfl ?_
  refine wr_if_ne 53 (wg_da dt_X6_readLines 27 rfl) (by decide) h (fun h => ?_) (fun h => ?_)
  · refine wr_iconst (0 : Int32) (wg_da dt_X6_readLines 28 rfl) (by decide) ?_
    exact wr_zret0 (wg_da dt_X6_readLines 29 rfl) h
  · refine wr_iinc (c0 := (1 : Int32)) (wg_da dt_X6_readLines 30 rfl) rfl (by decide) (by decide) h (fun v1 h => ?_)
    refine wr_goto 10 (wg_da dt_X6_readLines 31 rfl) (by decide) ?_
    exact wr_wk [true, true, true, false] (hk10 x0 x1 v1 σ hx0 h)
set_option maxRecDepth 20000 in
theorem g_X6_readLines_10 (l : Launch) (E : wg_E)  (z : Int32 × wg_M) : ∀ (n : Nat) (x0 : Nat) (x1 : Int32) (x2 : Int32) (σ : wg_M) (hx0 : wg_t Sc x0 = 8) (h : f_X6_readLines_10  n x0 x1 x2 σ = some z), wg_G l E Sc "WornWigs$Reader" cX6_readLines 4 (some .boolean) rm_X6_readLines (some z.1) z.2 10 [some (.ref x0), some (.int x1), some (.int x2), none] [] σ := by
  intro n
  induction n with
  | zero => intro x0 x1 x2 σ hx0 h; cases h
  | succ n ih =>
    intro x0 x1 x2 σ hx0 h
    refine wr_iload_n (wg_da dt_X6_readLines 6 rfl) rfl ?_
    refine wr_bipush (16 : Int32) (wg_da dt_X6_readLines 7 rfl) (by decide) ?_
    refine wr_icmp_gt 59 (wg_da dt_X6_readLines 8 rfl) (by decide) h (fun h => ?_) (fun h => ?_)
    · exact wr_wk [true, true, false, false] (g_X6_readLines_59 l E  x0 x1 σ _ hx0  h)
    · refine wr_aload_n (wg_da dt_X6_readLines 9 rfl) rfl ?_
      refine wr_getR wf_X6_15 (wg_da dt_X6_readLines 10 rfl) hx0 ?_
      refine wr_aload_n (wg_da dt_X6_readLines 11 rfl) rfl ?_
      refine wr_getI wf_X6_57 (wg_da dt_X6_readLines 12 rfl) hx0 ?_
      refine wr_iald (wg_da dt_X6_readLines 13 rfl) (wg_ty Sc_ok 6 3 0 hx0 rfl (by decide)).2 h (fun v1 h => ?_)
      refine wr_iconst (1 : Int32) (wg_da dt_X6_readLines 14 rfl) (by decide) ?_
      refine wr_icmp_eq 59 (wg_da dt_X6_readLines 15 rfl) (by decide) h (fun h => ?_) (fun h => ?_)
      · exact wr_wk [true, true, false, false] (g_X6_readLines_59 l E  x0 x1 σ _ hx0  h)
      · refine wr_iload_n (wg_da dt_X6_readLines 16 rfl) rfl ?_
        refine wr_iconst (3 : Int32) (wg_da dt_X6_readLines 17 rfl) (by decide) ?_
        refine wr_icmp_ne 41 (wg_da dt_X6_readLines 18 rfl) (by decide) h (fun h => ?_) (fun h => ?_)
        · refine wr_aload_n (wg_da dt_X6_readLines 19 rfl) rfl ?_
          refine wr_callVi [] [] (wg_da dt_X6_readLines 20 rfl) ⟨wq_4_237, wq_4_239, wq_p2_15⟩ hx0 ⟨rfl, by decide⟩ wy_X6_readKinLine (fun q hq => m_X6_readKinLine l E x0 hx0 _ q hq) rfl rfl (Nat.le_of_ble_eq_true rfl) ⟨rfl, rfl, by decide, by decide⟩ h (fun v4 s5 h => ?_)
          refine wr_goto 46 (wg_da dt_X6_readLines 21 rfl) (by decide) ?_
          exact wr_wk [true, true, true, false] (g_X6_readLines_46 l E (f_X6_readLines_10  n) x0 x1 x2 v4 s5 _ hx0 (fun x0 x1 x2 σ hx0 h => ih x0 x1 x2 σ hx0 h) h)
        · refine wr_aload_n (wg_da dt_X6_readLines 22 rfl) rfl ?_
          refine wr_iload_n (wg_da dt_X6_readLines 23 rfl) rfl ?_
          refine wr_callVi [.int x1] [] (wg_da dt_X6_readLines 24 rfl) ⟨wq_5_10, wq_5_12, wq_p3_2⟩ hx0 ⟨rfl, by decide⟩ wy_X6_readPlanLine (fun q hq => m_X6_readPlanLine l E x0 x1 hx0 _ q hq) rfl rfl (Nat.le_of_ble_eq_true rfl) ⟨rfl, rfl, by decide, by decide⟩ h (fun v2 s3 h => ?_)
          exact wr_wk [true, true, true, false] (g_X6_readLines_46 l E (f_X6_readLines_10  n) x0 x1 x2 v2 s3 _ hx0 (fun x0 x1 x2 σ hx0 h => ih x0 x1 x2 σ hx0 h) h)
set_option maxRecDepth 20000 in
theorem g_X6_readLines_e (l : Launch) (E : wg_E)  (x0 : Nat) (x1 : Int32) (σ : wg_M) (z : Int32 × wg_M) (hx0 : wg_t Sc x0 = 8) (h : f_X6_readLines  x0 x1 σ = some z) : wg_G l E Sc "WornWigs$Reader" cX6_readLines 4 (some .boolean) rm_X6_readLines (some z.1) z.2 0 [some (.ref x0), some (.int x1), none, none] [] σ := by
  refine wr_aload_n (wg_da dt_X6_readLines 0 rfl) rfl ?_
  refine wr_getR wf_X6_40 (wg_da dt_X6_readLines 1 rfl) hx0 ?_
  refine wr_iconst (0 : Int32) (wg_da dt_X6_readLines 2 rfl) (by decide) ?_
  refine wr_putI wfp_X6_132 (wg_da dt_X6_readLines 3 rfl) (wg_ty Sc_ok 6 11 6 hx0 rfl (by decide)).2 h (fun s1 h => ?_)
  refine wr_iconst (0 : Int32) (wg_da dt_X6_readLines 4 rfl) (by decide) ?_
  refine wr_istore_n (wg_da dt_X6_readLines 5 rfl) (by decide) ?_
  exact wr_wk [true, true, true, false] (g_X6_readLines_10 l E  _  wg_N x0 x1 (0 : Int32) s1 hx0 h)
theorem m_X6_readLines (l : Launch) (E : wg_E) (x0 : Nat) (x1 : Int32) (hx0 : wg_t Sc x0 = 8) (σ : wg_M) (q : Int32 × wg_M) (h : f_X6_readLines x0 x1 σ = some q) : wg_MG l E Sc yX6_readLines cX6_readLines 4 (some .boolean) rm_X6_readLines [.ref x0, .int x1] σ (some q.1) q.2 :=
  wg_met [.ref x0, .int x1] (plainFor_of_name (by decide)) (Nat.le_of_ble_eq_true rfl) (g_X6_readLines_e l E x0 x1 σ q hx0 h)
abbrev rm_X6_readUnit : Room := { frames := 1, cells := 0, slots := 0, locals := 22 }
def tb_X6_readUnit : List (Nat × Instr × Nat) := [(0, .aload_n 0, 1), (1, .getfield 15, 3), (4, .aload_n 0, 1), (5, .getfield 57, 3), (8, .iaload, 1), (9, .iconst 2, 1), (10, .if_icmp .ne 23, 3), (13, .aload_n 0, 1), (14, .getfield 31, 3), (17, .iconst 2, 1), (18, .aload_n 0, 1), (19, .getfield 18, 3), (22, .aload_n 0, 1), (23, .getfield 57, 3), (26, .iaload, 1), (27, .invokevirtual 212, 3), (30, .goto 54, 3), (33, .aload_n 0, 1), (34, .getfield 15, 3), (37, .aload_n 0, 1), (38, .getfield 57, 3), (41, .iaload, 1), (42, .sipush 256, 3), (45, .sipush 265, 3), (48, .invokestatic 84, 3), (51, .ifCond .eq 27, 3), (54, .aload_n 0, 1), (55, .getfield 31, 3), (58, .iconst 3, 1), (59, .aload_n 0, 1), (60, .getfield 15, 3), (63, .aload_n 0, 1), (64, .getfield 57, 3), (67, .iaload, 1), (68, .sipush 256, 3), (71, .isub, 1), (72, .invokevirtual 212, 3), (75, .goto 9, 3), (78, .aload_n 0, 1), (79, .iconst 1, 1), (80, .invokevirtual 102, 3), (83, .ireturn, 1), (84, .aload_n 0, 1), (85, .dup, 1), (86, .getfield 57, 3), (89, .iconst 1, 1), (90, .iadd, 1), (91, .putfield 57, 3), (94, .iconst 1, 1), (95, .ireturn, 1)]
theorem dt_X6_readUnit : wg_dc cX6_readUnit tb_X6_readUnit := by unfold wg_dc; decide +kernel
def f_X6_readUnit_84  (x0 : Nat) (σ : wg_M) : Option (Int32 × wg_M) := wg_st σ x0 7 ((σ x0 7) + (1 : Int32)) (fun s1 => some ((1 : Int32), s1))
def f_X6_readUnit  (x0 : Nat) (σ : wg_M) : Option (Int32 × wg_M) := wg_ga (wg_n Sc (wg_r Sc x0 3)) (σ (wg_r Sc x0 3)) (σ x0 7) (fun v1 => if v1 = (2 : Int32) then (wg_ga (wg_n Sc (wg_r Sc x0 4)) (σ (wg_r Sc x0 4)) (σ x0 7) (fun v9 => wg_bd (f_X3_put (wg_r Sc x0 10) (2 : Int32) v9 σ) (fun _ s10 => f_X6_readUnit_84  x0 s10))) else (wg_ga (wg_n Sc (wg_r Sc x0 3)) (σ (wg_r Sc x0 3)) (σ x0 7) (fun v2 => wg_bd (f_X11_within v2 (256 : Int32) (265 : Int32) σ) (fun v3 s4 => if v3 = 0 then (wg_bd (f_X6_fail x0 (1 : Int32) s4) (fun v5 s6 => wg_bz v5 (some (v5, s6)))) else (wg_ga (wg_n Sc (wg_r Sc x0 3)) (s4 (wg_r Sc x0 3)) (s4 x0 7) (fun v7 => wg_bd (f_X3_put (wg_r Sc x0 10) (3 : Int32) (v7 - (256 : Int32)) s4) (fun _ s8 => f_X6_readUnit_84  x0 s8)))))))
set_option maxRecDepth 20000 in
theorem g_X6_readUnit_84 (l : Launch) (E : wg_E)  (x0 : Nat) (σ : wg_M) (z : Int32 × wg_M) (hx0 : wg_t Sc x0 = 8) (h : f_X6_readUnit_84  x0 σ = some z) : wg_G l E Sc "WornWigs$Reader" cX6_readUnit 1 (some .boolean) rm_X6_readUnit (some z.1) z.2 84 [some (.ref x0)] [] σ := by
  refine wr_aload_n (wg_da dt_X6_readUnit 42 rfl) rfl ?_
  refine wr_dup (wg_da dt_X6_readUnit 43 rfl) ?_
  refine wr_getI wf_X6_57 (wg_da dt_X6_readUnit 44 rfl) hx0 ?_
  refine wr_iconst (1 : Int32) (wg_da dt_X6_readUnit 45 rfl) (by decide) ?_
  refine wr_iadd (wg_da dt_X6_readUnit 46 rfl) ?_
  refine wr_putI wfp_X6_57 (wg_da dt_X6_readUnit 47 rfl) hx0 h (fun s1 h => ?_)
  refine wr_iconst (1 : Int32) (wg_da dt_X6_readUnit 48 rfl) (by decide) ?_
  exact wr_zret1 (wg_da dt_X6_readUnit 49 rfl) h
set_option maxRecDepth 20000 in
theorem g_X6_readUnit_e (l : Launch) (E : wg_E)  (x0 : Nat) (σ : wg_M) (z : Int32 × wg_M) (hx0 : wg_t Sc x0 = 8) (h : f_X6_readUnit  x0 σ = some z) : wg_G l E Sc "WornWigs$Reader" cX6_readUnit 1 (some .boolean) rm_X6_readUnit (some z.1) z.2 0 [some (.ref x0)] [] σ := by
  refine wr_aload_n (wg_da dt_X6_readUnit 0 rfl) rfl ?_
  refine wr_getR wf_X6_15 (wg_da dt_X6_readUnit 1 rfl) hx0 ?_
  refine wr_aload_n (wg_da dt_X6_readUnit 2 rfl) rfl ?_
  refine wr_getI wf_X6_57 (wg_da dt_X6_readUnit 3 rfl) hx0 ?_
  refine wr_iald (wg_da dt_X6_readUnit 4 rfl) (wg_ty Sc_ok 6 3 0 hx0 rfl (by decide)).2 h (fun v1 h => ?_)
  refine wr_iconst (2 : Int32) (wg_da dt_X6_readUnit 5 rfl) (by decide) ?_
  refine wr_icmp_ne 33 (wg_da dt_X6_readUnit 6 rfl) (by decide) h (fun h => ?_) (fun h => ?_)
  · refine wr_aload_n (wg_da dt_X6_readUnit 7 rfl) rfl ?_
    refine wr_getR wf_X6_31 (wg_da dt_X6_readUnit 8 rfl) hx0 ?_
    refine wr_iconst (2 : Int32) (wg_da dt_X6_readUnit 9 rfl) (by decide) ?_
    refine wr_aload_n (wg_da dt_X6_readUnit 10 rfl) rfl ?_
    refine wr_getR wf_X6_18 (wg_da dt_X6_readUnit 11 rfl) hx0 ?_
    refine wr_aload_n (wg_da dt_X6_readUnit 12 rfl) rfl ?_
    refine wr_getI wf_X6_57 (wg_da dt_X6_readUnit 13 rfl) hx0 ?_
    refine wr_iald (wg_da dt_X6_readUnit 14 rfl) (wg_ty Sc_ok 6 4 0 hx0 rfl (by decide)).2 h (fun v9 h => ?_)
    refine wr_callVv [.int (2 : Int32), .int v9] [] (wg_da dt_X6_readUnit 15 rfl) ⟨wq_4_192, wq_4_193, wq_4_194⟩ (wg_ty Sc_ok 6 10 5 hx0 rfl (by decide)).2 ⟨rfl, by decide⟩ wy_X3_put (fun q hq => m_X3_put l E (wg_r Sc x0 10) (2 : Int32) v9 (wg_ty Sc_ok 6 10 5 hx0 rfl (by decide)).2 _ q hq) rfl rfl (Nat.le_of_ble_eq_true rfl) ⟨rfl, rfl, by decide, by decide⟩ h (fun _ s10 h => ?_)
    refine wr_goto 84 (wg_da dt_X6_readUnit 16 rfl) (by decide) ?_
    exact wr_wk [true] (g_X6_readUnit_84 l E  x0 s10 _ hx0  h)
  · refine wr_aload_n (wg_da dt_X6_readUnit 17 rfl) rfl ?_
    refine wr_getR wf_X6_15 (wg_da dt_X6_readUnit 18 rfl) hx0 ?_
    refine wr_aload_n (wg_da dt_X6_readUnit 19 rfl) rfl ?_
    refine wr_getI wf_X6_57 (wg_da dt_X6_readUnit 20 rfl) hx0 ?_
    refine wr_iald (wg_da dt_X6_readUnit 21 rfl) (wg_ty Sc_ok 6 3 0 hx0 rfl (by decide)).2 h (fun v2 h => ?_)
    refine wr_sipush (256 : Int32) (wg_da dt_X6_readUnit 22 rfl) (by decide) ?_
    refine wr_sipush (265 : Int32) (wg_da dt_X6_readUnit 23 rfl) (by decide) ?_
    refine wr_callNi [.int v2, .int (256 : Int32), .int (265 : Int32)] [] (wg_da dt_X6_readUnit 24 rfl) ⟨List.mem_of_getElem? (i := 15) rfl, wq_3_49⟩ wy_X11_within (fun q hq => m_X11_within l E v2 (256 : Int32) (265 : Int32)  _ q hq) rfl rfl (Nat.le_of_ble_eq_true rfl) ⟨rfl, rfl, by decide, by decide⟩ h (fun v3 s4 h => ?_)
    refine wr_if_eq 78 (wg_da dt_X6_readUnit 25 rfl) (by decide) h (fun h => ?_) (fun h => ?_)
    · refine wr_aload_n (wg_da dt_X6_readUnit 38 rfl) rfl ?_
      refine wr_iconst (1 : Int32) (wg_da dt_X6_readUnit 39 rfl) (by decide) ?_
      refine wr_callVi [.int (1 : Int32)] [] (wg_da dt_X6_readUnit 40 rfl) ⟨wq_4_176, wq_4_178, wq_p2_3⟩ hx0 ⟨rfl, by decide⟩ wy_X6_fail (fun q hq => m_X6_fail l E x0 (1 : Int32) hx0 _ q hq) rfl rfl (Nat.le_of_ble_eq_true rfl) ⟨rfl, rfl, by decide, by decide⟩ h (fun v5 s6 h => ?_)
      exact wr_zret (wg_da dt_X6_readUnit 41 rfl) h
    · refine wr_aload_n (wg_da dt_X6_readUnit 26 rfl) rfl ?_
      refine wr_getR wf_X6_31 (wg_da dt_X6_readUnit 27 rfl) hx0 ?_
      refine wr_iconst (3 : Int32) (wg_da dt_X6_readUnit 28 rfl) (by decide) ?_
      refine wr_aload_n (wg_da dt_X6_readUnit 29 rfl) rfl ?_
      refine wr_getR wf_X6_15 (wg_da dt_X6_readUnit 30 rfl) hx0 ?_
      refine wr_aload_n (wg_da dt_X6_readUnit 31 rfl) rfl ?_
      refine wr_getI wf_X6_57 (wg_da dt_X6_readUnit 32 rfl) hx0 ?_
      refine wr_iald (wg_da dt_X6_readUnit 33 rfl) (wg_ty Sc_ok 6 3 0 hx0 rfl (by decide)).2 h (fun v7 h => ?_)
      refine wr_sipush (256 : Int32) (wg_da dt_X6_readUnit 34 rfl) (by decide) ?_
      refine wr_isub (wg_da dt_X6_readUnit 35 rfl) ?_
      refine wr_callVv [.int (3 : Int32), .int (v7 - (256 : Int32))] [] (wg_da dt_X6_readUnit 36 rfl) ⟨wq_4_192, wq_4_193, wq_4_194⟩ (wg_ty Sc_ok 6 10 5 hx0 rfl (by decide)).2 ⟨rfl, by decide⟩ wy_X3_put (fun q hq => m_X3_put l E (wg_r Sc x0 10) (3 : Int32) (v7 - (256 : Int32)) (wg_ty Sc_ok 6 10 5 hx0 rfl (by decide)).2 _ q hq) rfl rfl (Nat.le_of_ble_eq_true rfl) ⟨rfl, rfl, by decide, by decide⟩ h (fun _ s8 h => ?_)
      refine wr_goto 84 (wg_da dt_X6_readUnit 37 rfl) (by decide) ?_
      exact wr_wk [true] (g_X6_readUnit_84 l E  x0 s8 _ hx0  h)
theorem m_X6_readUnit (l : Launch) (E : wg_E) (x0 : Nat) (hx0 : wg_t Sc x0 = 8) (σ : wg_M) (q : Int32 × wg_M) (h : f_X6_readUnit x0 σ = some q) : wg_MG l E Sc yX6_readUnit cX6_readUnit 1 (some .boolean) rm_X6_readUnit [.ref x0] σ (some q.1) q.2 :=
  wg_met [.ref x0] (plainFor_of_name (by decide)) (Nat.le_of_ble_eq_true rfl) (g_X6_readUnit_e l E x0 σ q hx0 h)
abbrev rm_X6_readProduct : Room := { frames := 2, cells := 0, slots := 0, locals := 44 }
def tb_X6_readProduct : List (Nat × Instr × Nat) := [(0, .aload_n 0, 1), (1, .invokevirtual 216, 3), (4, .ifCond .ne 5, 3), (7, .iconst 0, 1), (8, .ireturn, 1), (9, .aload_n 0, 1), (10, .getfield 57, 3), (13, .aload_n 0, 1), (14, .getfield 60, 3), (17, .if_icmp .ge 118, 3), (20, .aload_n 0, 1), (21, .getfield 15, 3), (24, .aload_n 0, 1), (25, .getfield 57, 3), (28, .iaload, 1), (29, .bipush 42, 2), (31, .if_icmp .eq 17, 3), (34, .aload_n 0, 1), (35, .getfield 15, 3), (38, .aload_n 0, 1), (39, .getfield 57, 3), (42, .iaload, 1), (43, .bipush 47, 2), (45, .if_icmp .ne 90, 3), (48, .aload_n 0, 1), (49, .getfield 15, 3), (52, .aload_n 0, 1), (53, .getfield 57, 3), (56, .iaload, 1), (57, .bipush 47, 2), (59, .if_icmp .ne 7, 3), (62, .iconst 1, 1), (63, .goto 4, 3), (66, .iconst 0, 1), (67, .istore_n 1, 1), (68, .aload_n 0, 1), (69, .dup, 1), (70, .getfield 57, 3), (73, .iconst 1, 1), (74, .iadd, 1), (75, .putfield 57, 3), (78, .iload_n 1, 1), (79, .ifCond .eq 14, 3), (82, .aload_n 0, 1), (83, .iconst 1, 1), (84, .sipush 9999, 3), (87, .invokevirtual 122, 3), (90, .goto 4, 3), (93, .iconst 0, 1), (94, .istore_n 2, 1), (95, .iload_n 2, 1), (96, .iconst (-1), 1), (97, .if_icmp .eq 14, 3), (100, .iload_n 1, 1), (101, .ifCond .ne 12, 3), (104, .aload_n 0, 1), (105, .invokevirtual 216, 3), (108, .ifCond .ne 5, 3), (111, .iconst 0, 1), (112, .ireturn, 1), (113, .aload_n 0, 1), (114, .getfield 31, 3), (117, .iload_n 1, 1), (118, .ifCond .eq 8, 3), (121, .bipush 47, 2), (123, .goto 5, 3), (126, .bipush 42, 2), (128, .iload_n 2, 1), (129, .invokevirtual 212, 3), (132, .goto (-123), 3), (135, .iconst 1, 1), (136, .ireturn, 1)]
theorem dt_X6_readProduct : wg_dc cX6_readProduct tb_X6_readProduct := by unfold wg_dc; decide +kernel
def f_X6_readProduct_128 (k9 : Nat → wg_M → Option (Int32 × wg_M)) (x0 : Nat) (x2 : Int32) (t0 : Int32) (t1 : Nat) (σ : wg_M) : Option (Int32 × wg_M) := wg_bd (f_X3_put t1 t0 x2 σ) (fun _ s1 => k9 x0 s1)
def f_X6_readProduct_113 (k9 : Nat → wg_M → Option (Int32 × wg_M)) (x0 : Nat) (x1 : Int32) (x2 : Int32) (σ : wg_M) : Option (Int32 × wg_M) := if x1 = 0 then (f_X6_readProduct_128 k9 x0 x2 (42 : Int32) (wg_r Sc x0 10) σ) else (f_X6_readProduct_128 k9 x0 x2 (47 : Int32) (wg_r Sc x0 10) σ)
def f_X6_readProduct_94 (k9 : Nat → wg_M → Option (Int32 × wg_M)) (x0 : Nat) (x1 : Int32) (t0 : Int32) (σ : wg_M) : Option (Int32 × wg_M) := if t0 = (-1 : Int32) then (some ((0 : Int32), σ)) else (if x1 = 0 then (wg_bd (f_X6_readUnit x0 σ) (fun v1 s2 => if v1 = 0 then (some ((0 : Int32), s2)) else (f_X6_readProduct_113 k9 x0 x1 t0 s2))) else (f_X6_readProduct_113 k9 x0 x1 t0 σ))
def f_X6_readProduct_67 (k9 : Nat → wg_M → Option (Int32 × wg_M)) (x0 : Nat) (t0 : Int32) (σ : wg_M) : Option (Int32 × wg_M) := wg_st σ x0 7 ((σ x0 7) + (1 : Int32)) (fun s1 => if t0 = 0 then (f_X6_readProduct_94 k9 x0 t0 (0 : Int32) s1) else (wg_bd (f_X6_readNumber x0 (1 : Int32) (9999 : Int32) s1) (fun v2 s3 => f_X6_readProduct_94 k9 x0 t0 v2 s3)))
def f_X6_readProduct_48 (k9 : Nat → wg_M → Option (Int32 × wg_M)) (x0 : Nat) (σ : wg_M) : Option (Int32 × wg_M) := wg_ga (wg_n Sc (wg_r Sc x0 3)) (σ (wg_r Sc x0 3)) (σ x0 7) (fun v1 => if v1 = (47 : Int32) then (f_X6_readProduct_67 k9 x0 (1 : Int32) σ) else (f_X6_readProduct_67 k9 x0 (0 : Int32) σ))
def f_X6_readProduct_9  : Nat → Nat → wg_M → Option (Int32 × wg_M)
  | 0, _, _ => none
  | n + 1, x0, σ => if (σ x0 6) ≤ (σ x0 7) then (some ((1 : Int32), σ)) else (wg_ga (wg_n Sc (wg_r Sc x0 3)) (σ (wg_r Sc x0 3)) (σ x0 7) (fun v1 => if v1 = (42 : Int32) then (f_X6_readProduct_48 (f_X6_readProduct_9  n) x0 σ) else (wg_ga (wg_n Sc (wg_r Sc x0 3)) (σ (wg_r Sc x0 3)) (σ x0 7) (fun v2 => if v2 = (47 : Int32) then (f_X6_readProduct_48 (f_X6_readProduct_9  n) x0 σ) else (some ((1 : Int32), σ))))))
def f_X6_readProduct  (x0 : Nat) (σ : wg_M) : Option (Int32 × wg_M) := wg_bd (f_X6_readUnit x0 σ) (fun v1 s2 => if v1 = 0 then (some ((0 : Int32), s2)) else (f_X6_readProduct_9  wg_N x0 s2))
set_option maxRecDepth 20000 in
theorem g_X6_readProduct_128 (l : Launch) (E : wg_E) (k9 : Nat → wg_M → Option (Int32 × wg_M)) (x0 : Nat) (x2 : Int32) (t0 : Int32) (t1 : Nat) (σ : wg_M) (z : Int32 × wg_M) (hx0 : wg_t Sc x0 = 8) (ht1 : wg_t Sc t1 = 5) (hk9 : ∀ (x0 : Nat) (σ : wg_M), wg_t Sc x0 = 8 → k9 x0 σ = some z → wg_G l E Sc "WornWigs$Reader" cX6_readProduct 3 (some .boolean) rm_X6_readProduct (some z.1) z.2 9 [some (.ref x0), none, none] [] σ) (h : f_X6_readProduct_128 k9 x0 x2 t0 t1 σ = some z) : wg_G l E Sc "WornWigs$Reader" cX6_readProduct 3 (some .boolean) rm_X6_readProduct (some z.1) z.2 128 [some (.ref x0), none, some (.int x2)] [.int t0, .ref t1] σ := by
  refine wr_iload_n (wg_da dt_X6_readProduct 67 rfl) rfl ?_
  refine wr_callVv [.int t0, .int x2] [] (wg_da dt_X6_readProduct 68 rfl) ⟨wq_4_192, wq_4_193, wq_4_194⟩ ht1 ⟨rfl, by decide⟩ wy_X3_put (fun q hq => m_X3_put l E t1 t0 x2 ht1 _ q hq) rfl rfl (Nat.le_of_ble_eq_true rfl) ⟨rfl, rfl, by decide, by decide⟩ h (fun _ s1 h => ?_)
  refine wr_goto 9 (wg_da dt_X6_readProduct 69 rfl) (by decide) ?_
  exact wr_wk [true, false, false] (hk9 x0 s1 hx0 h)
set_option maxRecDepth 20000 in
theorem g_X6_readProduct_113 (l : Launch) (E : wg_E) (k9 : Nat → wg_M → Option (Int32 × wg_M)) (x0 : Nat) (x1 : Int32) (x2 : Int32) (σ : wg_M) (z : Int32 × wg_M) (hx0 : wg_t Sc x0 = 8) (hk9 : ∀ (x0 : Nat) (σ : wg_M), wg_t Sc x0 = 8 → k9 x0 σ = some z → wg_G l E Sc "WornWigs$Reader" cX6_readProduct 3 (some .boolean) rm_X6_readProduct (some z.1) z.2 9 [some (.ref x0), none, none] [] σ) (h : f_X6_readProduct_113 k9 x0 x1 x2 σ = some z) : wg_G l E Sc "WornWigs$Reader" cX6_readProduct 3 (some .boolean) rm_X6_readProduct (some z.1) z.2 113 [some (.ref x0), some (.int x1), some (.int x2)] [] σ := by
  refine wr_aload_n (wg_da dt_X6_readProduct 60 rfl) rfl ?_
  refine wr_getR wf_X6_31 (wg_da dt_X6_readProduct 61 rfl) hx0 ?_
  refine wr_iload_n (wg_da dt_X6_readProduct 62 rfl) rfl ?_
  refine wr_if_eq 126 (wg_da dt_X6_readProduct 63 rfl) (by decide) h (fun h => ?_) (fun h => ?_)
  · refine wr_bipush (42 : Int32) (wg_da dt_X6_readProduct 66 rfl) (by decide) ?_
    exact wr_wk [true, false, true] (g_X6_readProduct_128 l E k9 x0 x2 (42 : Int32) (wg_r Sc x0 10) σ _ hx0 (wg_ty Sc_ok 6 10 5 hx0 rfl (by decide)).2 hk9 h)
  · refine wr_bipush (47 : Int32) (wg_da dt_X6_readProduct 64 rfl) (by decide) ?_
    refine wr_goto 128 (wg_da dt_X6_readProduct 65 rfl) (by decide) ?_
    exact wr_wk [true, false, true] (g_X6_readProduct_128 l E k9 x0 x2 (47 : Int32) (wg_r Sc x0 10) σ _ hx0 (wg_ty Sc_ok 6 10 5 hx0 rfl (by decide)).2 hk9 h)
set_option maxRecDepth 20000 in
theorem g_X6_readProduct_94 (l : Launch) (E : wg_E) (k9 : Nat → wg_M → Option (Int32 × wg_M)) (x0 : Nat) (x1 : Int32) (t0 : Int32) (σ : wg_M) (z : Int32 × wg_M) (hx0 : wg_t Sc x0 = 8) (hk9 : ∀ (x0 : Nat) (σ : wg_M), wg_t Sc x0 = 8 → k9 x0 σ = some z → wg_G l E Sc "WornWigs$Reader" cX6_readProduct 3 (some .boolean) rm_X6_readProduct (some z.1) z.2 9 [some (.ref x0), none, none] [] σ) (h : f_X6_readProduct_94 k9 x0 x1 t0 σ = some z) : wg_G l E Sc "WornWigs$Reader" cX6_readProduct 3 (some .boolean) rm_X6_readProduct (some z.1) z.2 94 [some (.ref x0), some (.int x1), none] [.int t0] σ := by
  refine wr_istore_n (wg_da dt_X6_readProduct 49 rfl) (by decide) ?_
  refine wr_iload_n (wg_da dt_X6_readProduct 50 rfl) rfl ?_
  refine wr_iconst (-1 : Int32) (wg_da dt_X6_readProduct 51 rfl) (by decide) ?_
  refine wr_icmp_eq 111 (wg_da dt_X6_readProduct 52 rfl) (by decide) h (fun h => ?_) (fun h => ?_)
  · refine wr_iconst (0 : Int32) (wg_da dt_X6_readProduct 58 rfl) (by decide) ?_
    exact wr_zret0 (wg_da dt_X6_readProduct 59 rfl) h
  · refine wr_iload_n (wg_da dt_X6_readProduct 53 rfl) rfl ?_
    refine wr_if_ne 113 (wg_da dt_X6_readProduct 54 rfl) (by decide) h (fun h => ?_) (fun h => ?_)
    · refine wr_aload_n (wg_da dt_X6_readProduct 55 rfl) rfl ?_
      refine wr_callVi [] [] (wg_da dt_X6_readProduct 56 rfl) ⟨wq_4_188, wq_4_190, wq_p2_6⟩ hx0 ⟨rfl, by decide⟩ wy_X6_readUnit (fun q hq => m_X6_readUnit l E x0 hx0 _ q hq) rfl rfl (Nat.le_of_ble_eq_true rfl) ⟨rfl, rfl, by decide, by decide⟩ h (fun v1 s2 h => ?_)
      refine wr_if_ne 113 (wg_da dt_X6_readProduct 57 rfl) (by decide) h (fun h => ?_) (fun h => ?_)
      · refine wr_iconst (0 : Int32) (wg_da dt_X6_readProduct 58 rfl) (by decide) ?_
        exact wr_zret0 (wg_da dt_X6_readProduct 59 rfl) h
      · exact wr_wk [true, true, true] (g_X6_readProduct_113 l E k9 x0 x1 t0 s2 _ hx0 hk9 h)
    · exact wr_wk [true, true, true] (g_X6_readProduct_113 l E k9 x0 x1 t0 σ _ hx0 hk9 h)
set_option maxRecDepth 20000 in
theorem g_X6_readProduct_67 (l : Launch) (E : wg_E) (k9 : Nat → wg_M → Option (Int32 × wg_M)) (x0 : Nat) (t0 : Int32) (σ : wg_M) (z : Int32 × wg_M) (hx0 : wg_t Sc x0 = 8) (hk9 : ∀ (x0 : Nat) (σ : wg_M), wg_t Sc x0 = 8 → k9 x0 σ = some z → wg_G l E Sc "WornWigs$Reader" cX6_readProduct 3 (some .boolean) rm_X6_readProduct (some z.1) z.2 9 [some (.ref x0), none, none] [] σ) (h : f_X6_readProduct_67 k9 x0 t0 σ = some z) : wg_G l E Sc "WornWigs$Reader" cX6_readProduct 3 (some .boolean) rm_X6_readProduct (some z.1) z.2 67 [some (.ref x0), none, none] [.int t0] σ := by
  refine wr_istore_n (wg_da dt_X6_readProduct 34 rfl) (by decide) ?_
  refine wr_aload_n (wg_da dt_X6_readProduct 35 rfl) rfl ?_
  refine wr_dup (wg_da dt_X6_readProduct 36 rfl) ?_
  refine wr_getI wf_X6_57 (wg_da dt_X6_readProduct 37 rfl) hx0 ?_
  refine wr_iconst (1 : Int32) (wg_da dt_X6_readProduct 38 rfl) (by decide) ?_
  refine wr_iadd (wg_da dt_X6_readProduct 39 rfl) ?_
  refine wr_putI wfp_X6_57 (wg_da dt_X6_readProduct 40 rfl) hx0 h (fun s1 h => ?_)
  refine wr_iload_n (wg_da dt_X6_readProduct 41 rfl) rfl ?_
  refine wr_if_eq 93 (wg_da dt_X6_readProduct 42 rfl) (by decide) h (fun h => ?_) (fun h => ?_)
  · refine wr_iconst (0 : Int32) (wg_da dt_X6_readProduct 48 rfl) (by decide) ?_
    exact wr_wk [true, true, false] (g_X6_readProduct_94 l E k9 x0 t0 (0 : Int32) s1 _ hx0 hk9 h)
  · refine wr_aload_n (wg_da dt_X6_readProduct 43 rfl) rfl ?_
    refine wr_iconst (1 : Int32) (wg_da dt_X6_readProduct 44 rfl) (by decide) ?_
    refine wr_sipush (9999 : Int32) (wg_da dt_X6_readProduct 45 rfl) (by decide) ?_
    refine wr_callVi [.int (1 : Int32), .int (9999 : Int32)] [] (wg_da dt_X6_readProduct 46 rfl) ⟨wq_4_196, wq_4_198, wq_p2_7⟩ hx0 ⟨rfl, by decide⟩ wy_X6_readNumber (fun q hq => m_X6_readNumber l E x0 (1 : Int32) (9999 : Int32) hx0 _ q hq) rfl rfl (Nat.le_of_ble_eq_true rfl) ⟨rfl, rfl, by decide, by decide⟩ h (fun v2 s3 h => ?_)
    refine wr_goto 94 (wg_da dt_X6_readProduct 47 rfl) (by decide) ?_
    exact wr_wk [true, true, false] (g_X6_readProduct_94 l E k9 x0 t0 v2 s3 _ hx0 hk9 h)
set_option maxRecDepth 20000 in
theorem g_X6_readProduct_48 (l : Launch) (E : wg_E) (k9 : Nat → wg_M → Option (Int32 × wg_M)) (x0 : Nat) (σ : wg_M) (z : Int32 × wg_M) (hx0 : wg_t Sc x0 = 8) (hk9 : ∀ (x0 : Nat) (σ : wg_M), wg_t Sc x0 = 8 → k9 x0 σ = some z → wg_G l E Sc "WornWigs$Reader" cX6_readProduct 3 (some .boolean) rm_X6_readProduct (some z.1) z.2 9 [some (.ref x0), none, none] [] σ) (h : f_X6_readProduct_48 k9 x0 σ = some z) : wg_G l E Sc "WornWigs$Reader" cX6_readProduct 3 (some .boolean) rm_X6_readProduct (some z.1) z.2 48 [some (.ref x0), none, none] [] σ := by
  refine wr_aload_n (wg_da dt_X6_readProduct 24 rfl) rfl ?_
  refine wr_getR wf_X6_15 (wg_da dt_X6_readProduct 25 rfl) hx0 ?_
  refine wr_aload_n (wg_da dt_X6_readProduct 26 rfl) rfl ?_
  refine wr_getI wf_X6_57 (wg_da dt_X6_readProduct 27 rfl) hx0 ?_
  refine wr_iald (wg_da dt_X6_readProduct 28 rfl) (wg_ty Sc_ok 6 3 0 hx0 rfl (by decide)).2 h (fun v1 h => ?_)
  refine wr_bipush (47 : Int32) (wg_da dt_X6_readProduct 29 rfl) (by decide) ?_
  refine wr_icmp_ne 66 (wg_da dt_X6_readProduct 30 rfl) (by decide) h (fun h => ?_) (fun h => ?_)
  · refine wr_iconst (1 : Int32) (wg_da dt_X6_readProduct 31 rfl) (by decide) ?_
    refine wr_goto 67 (wg_da dt_X6_readProduct 32 rfl) (by decide) ?_
    exact wr_wk [true, false, false] (g_X6_readProduct_67 l E k9 x0 (1 : Int32) σ _ hx0 hk9 h)
  · refine wr_iconst (0 : Int32) (wg_da dt_X6_readProduct 33 rfl) (by decide) ?_
    exact wr_wk [true, false, false] (g_X6_readProduct_67 l E k9 x0 (0 : Int32) σ _ hx0 hk9 h)
set_option maxRecDepth 20000 in
theorem g_X6_readProduct_9 (l : Launch) (E : wg_E)  (z : Int32 × wg_M) : ∀ (n : Nat) (x0 : Nat) (σ : wg_M) (hx0 : wg_t Sc x0 = 8) (h : f_X6_readProduct_9  n x0 σ = some z), wg_G l E Sc "WornWigs$Reader" cX6_readProduct 3 (some .boolean) rm_X6_readProduct (some z.1) z.2 9 [some (.ref x0), none, none] [] σ := by
  intro n
  induction n with
  | zero => intro x0 σ hx0 h; cases h
  | succ n ih =>
    intro x0 σ hx0 h
    refine wr_aload_n (wg_da dt_X6_readProduct 5 rfl) rfl ?_
    refine wr_getI wf_X6_57 (wg_da dt_X6_readProduct 6 rfl) hx0 ?_
    refine wr_aload_n (wg_da dt_X6_readProduct 7 rfl) rfl ?_
    refine wr_getI wf_X6_60 (wg_da dt_X6_readProduct 8 rfl) hx0 ?_
    refine wr_icmp_ge 135 (wg_da dt_X6_readProduct 9 rfl) (by decide) h (fun h => ?_) (fun h => ?_)
    · refine wr_iconst (1 : Int32) (wg_da dt_X6_readProduct 70 rfl) (by decide) ?_
      exact wr_zret1 (wg_da dt_X6_readProduct 71 rfl) h
    · refine wr_aload_n (wg_da dt_X6_readProduct 10 rfl) rfl ?_
      refine wr_getR wf_X6_15 (wg_da dt_X6_readProduct 11 rfl) hx0 ?_
      refine wr_aload_n (wg_da dt_X6_readProduct 12 rfl) rfl ?_
      refine wr_getI wf_X6_57 (wg_da dt_X6_readProduct 13 rfl) hx0 ?_
      refine wr_iald (wg_da dt_X6_readProduct 14 rfl) (wg_ty Sc_ok 6 3 0 hx0 rfl (by decide)).2 h (fun v1 h => ?_)
      refine wr_bipush (42 : Int32) (wg_da dt_X6_readProduct 15 rfl) (by decide) ?_
      refine wr_icmp_eq 48 (wg_da dt_X6_readProduct 16 rfl) (by decide) h (fun h => ?_) (fun h => ?_)
      · exact wr_wk [true, false, false] (g_X6_readProduct_48 l E (f_X6_readProduct_9  n) x0 σ _ hx0 (fun x0 σ hx0 h => ih x0 σ hx0 h) h)
      · refine wr_aload_n (wg_da dt_X6_readProduct 17 rfl) rfl ?_
        refine wr_getR wf_X6_15 (wg_da dt_X6_readProduct 18 rfl) hx0 ?_
        refine wr_aload_n (wg_da dt_X6_readProduct 19 rfl) rfl ?_
        refine wr_getI wf_X6_57 (wg_da dt_X6_readProduct 20 rfl) hx0 ?_
        refine wr_iald (wg_da dt_X6_readProduct 21 rfl) (wg_ty Sc_ok 6 3 0 hx0 rfl (by decide)).2 h (fun v2 h => ?_)
        refine wr_bipush (47 : Int32) (wg_da dt_X6_readProduct 22 rfl) (by decide) ?_
        refine wr_icmp_ne 135 (wg_da dt_X6_readProduct 23 rfl) (by decide) h (fun h => ?_) (fun h => ?_)
        · exact wr_wk [true, false, false] (g_X6_readProduct_48 l E (f_X6_readProduct_9  n) x0 σ _ hx0 (fun x0 σ hx0 h => ih x0 σ hx0 h) h)
        · refine wr_iconst (1 : Int32) (wg_da dt_X6_readProduct 70 rfl) (by decide) ?_
          exact wr_zret1 (wg_da dt_X6_readProduct 71 rfl) h
set_option maxRecDepth 20000 in
theorem g_X6_readProduct_e (l : Launch) (E : wg_E)  (x0 : Nat) (σ : wg_M) (z : Int32 × wg_M) (hx0 : wg_t Sc x0 = 8) (h : f_X6_readProduct  x0 σ = some z) : wg_G l E Sc "WornWigs$Reader" cX6_readProduct 3 (some .boolean) rm_X6_readProduct (some z.1) z.2 0 [some (.ref x0), none, none] [] σ := by
  refine wr_aload_n (wg_da dt_X6_readProduct 0 rfl) rfl ?_
  refine wr_callVi [] [] (wg_da dt_X6_readProduct 1 rfl) ⟨wq_4_188, wq_4_190, wq_p2_6⟩ hx0 ⟨rfl, by decide⟩ wy_X6_readUnit (fun q hq => m_X6_readUnit l E x0 hx0 _ q hq) rfl rfl (Nat.le_of_ble_eq_true rfl) ⟨rfl, rfl, by decide, by decide⟩ h (fun v1 s2 h => ?_)
  refine wr_if_ne 9 (wg_da dt_X6_readProduct 2 rfl) (by decide) h (fun h => ?_) (fun h => ?_)
  · refine wr_iconst (0 : Int32) (wg_da dt_X6_readProduct 3 rfl) (by decide) ?_
    exact wr_zret0 (wg_da dt_X6_readProduct 4 rfl) h
  · exact wr_wk [true, false, false] (g_X6_readProduct_9 l E  _  wg_N x0 s2 hx0 h)
theorem m_X6_readProduct (l : Launch) (E : wg_E) (x0 : Nat) (hx0 : wg_t Sc x0 = 8) (σ : wg_M) (q : Int32 × wg_M) (h : f_X6_readProduct x0 σ = some q) : wg_MG l E Sc yX6_readProduct cX6_readProduct 3 (some .boolean) rm_X6_readProduct [.ref x0] σ (some q.1) q.2 :=
  wg_met [.ref x0] (plainFor_of_name (by decide)) (Nat.le_of_ble_eq_true rfl) (g_X6_readProduct_e l E x0 σ q hx0 h)
abbrev rm_X6_readSum : Room := { frames := 3, cells := 0, slots := 0, locals := 66 }
def tb_X6_readSum : List (Nat × Instr × Nat) := [(0, .aload_n 0, 1), (1, .invokevirtual 209, 3), (4, .ifCond .ne 5, 3), (7, .iconst 0, 1), (8, .ireturn, 1), (9, .aload_n 0, 1), (10, .getfield 57, 3), (13, .aload_n 0, 1), (14, .getfield 60, 3), (17, .if_icmp .ge 72, 3), (20, .aload_n 0, 1), (21, .getfield 15, 3), (24, .aload_n 0, 1), (25, .getfield 57, 3), (28, .iaload, 1), (29, .bipush 43, 2), (31, .if_icmp .eq 17, 3), (34, .aload_n 0, 1), (35, .getfield 15, 3), (38, .aload_n 0, 1), (39, .getfield 57, 3), (42, .iaload, 1), (43, .bipush 45, 2), (45, .if_icmp .ne 44, 3), (48, .aload_n 0, 1), (49, .getfield 15, 3), (52, .aload_n 0, 1), (53, .getfield 57, 3), (56, .iaload, 1), (57, .istore_n 1, 1), (58, .aload_n 0, 1), (59, .dup, 1), (60, .getfield 57, 3), (63, .iconst 1, 1), (64, .iadd, 1), (65, .putfield 57, 3), (68, .aload_n 0, 1), (69, .invokevirtual 209, 3), (72, .ifCond .ne 5, 3), (75, .iconst 0, 1), (76, .ireturn, 1), (77, .aload_n 0, 1), (78, .getfield 31, 3), (81, .iload_n 1, 1), (82, .iconst 0, 1), (83, .invokevirtual 212, 3), (86, .goto (-77), 3), (89, .iconst 1, 1), (90, .ireturn, 1)]
theorem dt_X6_readSum : wg_dc cX6_readSum tb_X6_readSum := by unfold wg_dc; decide +kernel
def f_X6_readSum_48 (k9 : Nat → wg_M → Option (Int32 × wg_M)) (x0 : Nat) (σ : wg_M) : Option (Int32 × wg_M) := wg_ga (wg_n Sc (wg_r Sc x0 3)) (σ (wg_r Sc x0 3)) (σ x0 7) (fun v1 => wg_st σ x0 7 ((σ x0 7) + (1 : Int32)) (fun s2 => wg_bd (f_X6_readProduct x0 s2) (fun v3 s4 => if v3 = 0 then (some ((0 : Int32), s4)) else (wg_bd (f_X3_put (wg_r Sc x0 10) v1 (0 : Int32) s4) (fun _ s5 => k9 x0 s5)))))
def f_X6_readSum_9  : Nat → Nat → wg_M → Option (Int32 × wg_M)
  | 0, _, _ => none
  | n + 1, x0, σ => if (σ x0 6) ≤ (σ x0 7) then (some ((1 : Int32), σ)) else (wg_ga (wg_n Sc (wg_r Sc x0 3)) (σ (wg_r Sc x0 3)) (σ x0 7) (fun v1 => if v1 = (43 : Int32) then (f_X6_readSum_48 (f_X6_readSum_9  n) x0 σ) else (wg_ga (wg_n Sc (wg_r Sc x0 3)) (σ (wg_r Sc x0 3)) (σ x0 7) (fun v2 => if v2 = (45 : Int32) then (f_X6_readSum_48 (f_X6_readSum_9  n) x0 σ) else (some ((1 : Int32), σ))))))
def f_X6_readSum  (x0 : Nat) (σ : wg_M) : Option (Int32 × wg_M) := wg_bd (f_X6_readProduct x0 σ) (fun v1 s2 => if v1 = 0 then (some ((0 : Int32), s2)) else (f_X6_readSum_9  wg_N x0 s2))
set_option maxRecDepth 20000 in
theorem g_X6_readSum_48 (l : Launch) (E : wg_E) (k9 : Nat → wg_M → Option (Int32 × wg_M)) (x0 : Nat) (σ : wg_M) (z : Int32 × wg_M) (hx0 : wg_t Sc x0 = 8) (hk9 : ∀ (x0 : Nat) (σ : wg_M), wg_t Sc x0 = 8 → k9 x0 σ = some z → wg_G l E Sc "WornWigs$Reader" cX6_readSum 2 (some .boolean) rm_X6_readSum (some z.1) z.2 9 [some (.ref x0), none] [] σ) (h : f_X6_readSum_48 k9 x0 σ = some z) : wg_G l E Sc "WornWigs$Reader" cX6_readSum 2 (some .boolean) rm_X6_readSum (some z.1) z.2 48 [some (.ref x0), none] [] σ := by
  refine wr_aload_n (wg_da dt_X6_readSum 24 rfl) rfl ?_
  refine wr_getR wf_X6_15 (wg_da dt_X6_readSum 25 rfl) hx0 ?_
  refine wr_aload_n (wg_da dt_X6_readSum 26 rfl) rfl ?_
  refine wr_getI wf_X6_57 (wg_da dt_X6_readSum 27 rfl) hx0 ?_
  refine wr_iald (wg_da dt_X6_readSum 28 rfl) (wg_ty Sc_ok 6 3 0 hx0 rfl (by decide)).2 h (fun v1 h => ?_)
  refine wr_istore_n (wg_da dt_X6_readSum 29 rfl) (by decide) ?_
  refine wr_aload_n (wg_da dt_X6_readSum 30 rfl) rfl ?_
  refine wr_dup (wg_da dt_X6_readSum 31 rfl) ?_
  refine wr_getI wf_X6_57 (wg_da dt_X6_readSum 32 rfl) hx0 ?_
  refine wr_iconst (1 : Int32) (wg_da dt_X6_readSum 33 rfl) (by decide) ?_
  refine wr_iadd (wg_da dt_X6_readSum 34 rfl) ?_
  refine wr_putI wfp_X6_57 (wg_da dt_X6_readSum 35 rfl) hx0 h (fun s2 h => ?_)
  refine wr_aload_n (wg_da dt_X6_readSum 36 rfl) rfl ?_
  refine wr_callVi [] [] (wg_da dt_X6_readSum 37 rfl) ⟨wq_4_184, wq_4_186, wq_p2_5⟩ hx0 ⟨rfl, by decide⟩ wy_X6_readProduct (fun q hq => m_X6_readProduct l E x0 hx0 _ q hq) rfl rfl (Nat.le_of_ble_eq_true rfl) ⟨rfl, rfl, by decide, by decide⟩ h (fun v3 s4 h => ?_)
  refine wr_if_ne 77 (wg_da dt_X6_readSum 38 rfl) (by decide) h (fun h => ?_) (fun h => ?_)
  · refine wr_iconst (0 : Int32) (wg_da dt_X6_readSum 39 rfl) (by decide) ?_
    exact wr_zret0 (wg_da dt_X6_readSum 40 rfl) h
  · refine wr_aload_n (wg_da dt_X6_readSum 41 rfl) rfl ?_
    refine wr_getR wf_X6_31 (wg_da dt_X6_readSum 42 rfl) hx0 ?_
    refine wr_iload_n (wg_da dt_X6_readSum 43 rfl) rfl ?_
    refine wr_iconst (0 : Int32) (wg_da dt_X6_readSum 44 rfl) (by decide) ?_
    refine wr_callVv [.int v1, .int (0 : Int32)] [] (wg_da dt_X6_readSum 45 rfl) ⟨wq_4_192, wq_4_193, wq_4_194⟩ (wg_ty Sc_ok 6 10 5 hx0 rfl (by decide)).2 ⟨rfl, by decide⟩ wy_X3_put (fun q hq => m_X3_put l E (wg_r Sc x0 10) v1 (0 : Int32) (wg_ty Sc_ok 6 10 5 hx0 rfl (by decide)).2 _ q hq) rfl rfl (Nat.le_of_ble_eq_true rfl) ⟨rfl, rfl, by decide, by decide⟩ h (fun _ s5 h => ?_)
    refine wr_goto 9 (wg_da dt_X6_readSum 46 rfl) (by decide) ?_
    exact wr_wk [true, false] (hk9 x0 s5 hx0 h)
set_option maxRecDepth 20000 in
theorem g_X6_readSum_9 (l : Launch) (E : wg_E)  (z : Int32 × wg_M) : ∀ (n : Nat) (x0 : Nat) (σ : wg_M) (hx0 : wg_t Sc x0 = 8) (h : f_X6_readSum_9  n x0 σ = some z), wg_G l E Sc "WornWigs$Reader" cX6_readSum 2 (some .boolean) rm_X6_readSum (some z.1) z.2 9 [some (.ref x0), none] [] σ := by
  intro n
  induction n with
  | zero => intro x0 σ hx0 h; cases h
  | succ n ih =>
    intro x0 σ hx0 h
    refine wr_aload_n (wg_da dt_X6_readSum 5 rfl) rfl ?_
    refine wr_getI wf_X6_57 (wg_da dt_X6_readSum 6 rfl) hx0 ?_
    refine wr_aload_n (wg_da dt_X6_readSum 7 rfl) rfl ?_
    refine wr_getI wf_X6_60 (wg_da dt_X6_readSum 8 rfl) hx0 ?_
    refine wr_icmp_ge 89 (wg_da dt_X6_readSum 9 rfl) (by decide) h (fun h => ?_) (fun h => ?_)
    · refine wr_iconst (1 : Int32) (wg_da dt_X6_readSum 47 rfl) (by decide) ?_
      exact wr_zret1 (wg_da dt_X6_readSum 48 rfl) h
    · refine wr_aload_n (wg_da dt_X6_readSum 10 rfl) rfl ?_
      refine wr_getR wf_X6_15 (wg_da dt_X6_readSum 11 rfl) hx0 ?_
      refine wr_aload_n (wg_da dt_X6_readSum 12 rfl) rfl ?_
      refine wr_getI wf_X6_57 (wg_da dt_X6_readSum 13 rfl) hx0 ?_
      refine wr_iald (wg_da dt_X6_readSum 14 rfl) (wg_ty Sc_ok 6 3 0 hx0 rfl (by decide)).2 h (fun v1 h => ?_)
      refine wr_bipush (43 : Int32) (wg_da dt_X6_readSum 15 rfl) (by decide) ?_
      refine wr_icmp_eq 48 (wg_da dt_X6_readSum 16 rfl) (by decide) h (fun h => ?_) (fun h => ?_)
      · exact wr_wk [true, false] (g_X6_readSum_48 l E (f_X6_readSum_9  n) x0 σ _ hx0 (fun x0 σ hx0 h => ih x0 σ hx0 h) h)
      · refine wr_aload_n (wg_da dt_X6_readSum 17 rfl) rfl ?_
        refine wr_getR wf_X6_15 (wg_da dt_X6_readSum 18 rfl) hx0 ?_
        refine wr_aload_n (wg_da dt_X6_readSum 19 rfl) rfl ?_
        refine wr_getI wf_X6_57 (wg_da dt_X6_readSum 20 rfl) hx0 ?_
        refine wr_iald (wg_da dt_X6_readSum 21 rfl) (wg_ty Sc_ok 6 3 0 hx0 rfl (by decide)).2 h (fun v2 h => ?_)
        refine wr_bipush (45 : Int32) (wg_da dt_X6_readSum 22 rfl) (by decide) ?_
        refine wr_icmp_ne 89 (wg_da dt_X6_readSum 23 rfl) (by decide) h (fun h => ?_) (fun h => ?_)
        · exact wr_wk [true, false] (g_X6_readSum_48 l E (f_X6_readSum_9  n) x0 σ _ hx0 (fun x0 σ hx0 h => ih x0 σ hx0 h) h)
        · refine wr_iconst (1 : Int32) (wg_da dt_X6_readSum 47 rfl) (by decide) ?_
          exact wr_zret1 (wg_da dt_X6_readSum 48 rfl) h
set_option maxRecDepth 20000 in
theorem g_X6_readSum_e (l : Launch) (E : wg_E)  (x0 : Nat) (σ : wg_M) (z : Int32 × wg_M) (hx0 : wg_t Sc x0 = 8) (h : f_X6_readSum  x0 σ = some z) : wg_G l E Sc "WornWigs$Reader" cX6_readSum 2 (some .boolean) rm_X6_readSum (some z.1) z.2 0 [some (.ref x0), none] [] σ := by
  refine wr_aload_n (wg_da dt_X6_readSum 0 rfl) rfl ?_
  refine wr_callVi [] [] (wg_da dt_X6_readSum 1 rfl) ⟨wq_4_184, wq_4_186, wq_p2_5⟩ hx0 ⟨rfl, by decide⟩ wy_X6_readProduct (fun q hq => m_X6_readProduct l E x0 hx0 _ q hq) rfl rfl (Nat.le_of_ble_eq_true rfl) ⟨rfl, rfl, by decide, by decide⟩ h (fun v1 s2 h => ?_)
  refine wr_if_ne 9 (wg_da dt_X6_readSum 2 rfl) (by decide) h (fun h => ?_) (fun h => ?_)
  · refine wr_iconst (0 : Int32) (wg_da dt_X6_readSum 3 rfl) (by decide) ?_
    exact wr_zret0 (wg_da dt_X6_readSum 4 rfl) h
  · exact wr_wk [true, false] (g_X6_readSum_9 l E  _  wg_N x0 s2 hx0 h)
theorem m_X6_readSum (l : Launch) (E : wg_E) (x0 : Nat) (hx0 : wg_t Sc x0 = 8) (σ : wg_M) (q : Int32 × wg_M) (h : f_X6_readSum x0 σ = some q) : wg_MG l E Sc yX6_readSum cX6_readSum 2 (some .boolean) rm_X6_readSum [.ref x0] σ (some q.1) q.2 :=
  wg_met [.ref x0] (plainFor_of_name (by decide)) (Nat.le_of_ble_eq_true rfl) (g_X6_readSum_e l E x0 σ q hx0 h)
abbrev rm_X6_await : Room := { frames := 0, cells := 0, slots := 0, locals := 0 }
def tb_X6_await : List (Nat × Instr × Nat) := [(0, .aload_n 0, 1), (1, .getfield 219, 3), (4, .aload_n 0, 1), (5, .getfield 44, 3), (8, .arraylength, 1), (9, .if_icmp .ge 23, 3), (12, .aload_n 0, 1), (13, .getfield 44, 3), (16, .aload_n 0, 1), (17, .getfield 219, 3), (20, .iload_n 1, 1), (21, .iastore, 1), (22, .aload_n 0, 1), (23, .dup, 1), (24, .getfield 219, 3), (27, .iconst 1, 1), (28, .iadd, 1), (29, .putfield 219, 3), (32, .return_, 1)]
theorem dt_X6_await : wg_dc cX6_await tb_X6_await := by unfold wg_dc; decide +kernel
def f_X6_await  (x0 : Nat) (x1 : Int32) (σ : wg_M) : Option (Int32 × wg_M) := if (Int32.ofNat (wg_n Sc (wg_r Sc x0 12))) ≤ (σ x0 13) then (some (0, σ)) else (wg_sa (wg_n Sc (wg_r Sc x0 12)) σ (wg_r Sc x0 12) (σ x0 13) x1 (fun s1 => wg_st s1 x0 13 ((s1 x0 13) + (1 : Int32)) (fun s2 => some (0, s2))))
set_option maxRecDepth 20000 in
theorem g_X6_await_e (l : Launch) (E : wg_E)  (x0 : Nat) (x1 : Int32) (σ : wg_M) (z : Int32 × wg_M) (hx0 : wg_t Sc x0 = 8) (h : f_X6_await  x0 x1 σ = some z) : wg_G l E Sc "WornWigs$Reader" cX6_await 2 none rm_X6_await none z.2 0 [some (.ref x0), some (.int x1)] [] σ := by
  refine wr_aload_n (wg_da dt_X6_await 0 rfl) rfl ?_
  refine wr_getI wf_X6_219 (wg_da dt_X6_await 1 rfl) hx0 ?_
  refine wr_aload_n (wg_da dt_X6_await 2 rfl) rfl ?_
  refine wr_getR wf_X6_44 (wg_da dt_X6_await 3 rfl) hx0 ?_
  refine wr_alen (Int32.ofNat (wg_n Sc (wg_r Sc x0 12))) (wg_da dt_X6_await 4 rfl) (wg_ty Sc_ok 6 12 0 hx0 rfl (by decide)).2 rfl ?_
  refine wr_icmp_ge 32 (wg_da dt_X6_await 5 rfl) (by decide) h (fun h => ?_) (fun h => ?_)
  · exact wr_vret (wg_da dt_X6_await 18 rfl) h
  · refine wr_aload_n (wg_da dt_X6_await 6 rfl) rfl ?_
    refine wr_getR wf_X6_44 (wg_da dt_X6_await 7 rfl) hx0 ?_
    refine wr_aload_n (wg_da dt_X6_await 8 rfl) rfl ?_
    refine wr_getI wf_X6_219 (wg_da dt_X6_await 9 rfl) hx0 ?_
    refine wr_iload_n (wg_da dt_X6_await 10 rfl) rfl ?_
    refine wr_iast (wg_da dt_X6_await 11 rfl) (wg_ty Sc_ok 6 12 0 hx0 rfl (by decide)).2 h (fun s1 h => ?_)
    refine wr_aload_n (wg_da dt_X6_await 12 rfl) rfl ?_
    refine wr_dup (wg_da dt_X6_await 13 rfl) ?_
    refine wr_getI wf_X6_219 (wg_da dt_X6_await 14 rfl) hx0 ?_
    refine wr_iconst (1 : Int32) (wg_da dt_X6_await 15 rfl) (by decide) ?_
    refine wr_iadd (wg_da dt_X6_await 16 rfl) ?_
    refine wr_putI wfp_X6_219 (wg_da dt_X6_await 17 rfl) hx0 h (fun s2 h => ?_)
    exact wr_vret (wg_da dt_X6_await 18 rfl) h
theorem m_X6_await (l : Launch) (E : wg_E) (x0 : Nat) (x1 : Int32) (hx0 : wg_t Sc x0 = 8) (σ : wg_M) (q : Int32 × wg_M) (h : f_X6_await x0 x1 σ = some q) : wg_MG l E Sc yX6_await cX6_await 2 none rm_X6_await [.ref x0, .int x1] σ none q.2 :=
  wg_met [.ref x0, .int x1] (plainFor_of_name (by decide)) (Nat.le_of_ble_eq_true rfl) (g_X6_await_e l E x0 x1 σ q hx0 h)
abbrev rm_X6_readOpening : Room := { frames := 1, cells := 0, slots := 0, locals := 21 }
def tb_X6_readOpening : List (Nat × Instr × Nat) := [(0, .aload_n 0, 1), (1, .getfield 57, 3), (4, .aload_n 0, 1), (5, .getfield 60, 3), (8, .if_icmp .ge 111, 3), (11, .aload_n 0, 1), (12, .getfield 15, 3), (15, .aload_n 0, 1), (16, .getfield 57, 3), (19, .iaload, 1), (20, .bipush 40, 2), (22, .if_icmp .eq 18, 3), (25, .aload_n 0, 1), (26, .getfield 15, 3), (29, .aload_n 0, 1), (30, .getfield 57, 3), (33, .iaload, 1), (34, .sipush 272, 3), (37, .if_icmp .ne 82, 3), (40, .aload_n 0, 1), (41, .getfield 222, 3), (44, .bipush 8, 2), (46, .if_icmp .lt 9, 3), (49, .aload_n 0, 1), (50, .iconst 3, 1), (51, .invokevirtual 102, 3), (54, .ireturn, 1), (55, .aload_n 0, 1), (56, .dup, 1), (57, .getfield 222, 3), (60, .iconst 1, 1), (61, .iadd, 1), (62, .putfield 222, 3), (65, .aload_n 0, 1), (66, .dup, 1), (67, .getfield 225, 3), (70, .aload_n 0, 1), (71, .getfield 15, 3), (74, .aload_n 0, 1), (75, .getfield 57, 3), (78, .iaload, 1), (79, .bipush 40, 2), (81, .if_icmp .ne 7, 3), (84, .iconst 1, 1), (85, .goto 4, 3), (88, .iconst 0, 1), (89, .iadd, 1), (90, .putfield 225, 3), (93, .aload_n 0, 1), (94, .aload_n 0, 1), (95, .getfield 15, 3), (98, .aload_n 0, 1), (99, .getfield 57, 3), (102, .iaload, 1), (103, .invokevirtual 234, 3), (106, .aload_n 0, 1), (107, .dup, 1), (108, .getfield 57, 3), (111, .iconst 1, 1), (112, .iadd, 1), (113, .putfield 57, 3), (116, .goto (-116), 3), (119, .iconst 1, 1), (120, .ireturn, 1)]
theorem dt_X6_readOpening : wg_dc cX6_readOpening tb_X6_readOpening := by unfold wg_dc; decide +kernel
def f_X6_readOpening_89 (k0 : Nat → wg_M → Option (Int32 × wg_M)) (x0 : Nat) (t0 : Int32) (t1 : Int32) (t2 : Nat) (σ : wg_M) : Option (Int32 × wg_M) := wg_st σ t2 15 (t1 + t0) (fun s1 => wg_ga (wg_n Sc (wg_r Sc x0 3)) (s1 (wg_r Sc x0 3)) (s1 x0 7) (fun v2 => wg_bd (f_X6_await x0 v2 s1) (fun _ s3 => wg_st s3 x0 7 ((s3 x0 7) + (1 : Int32)) (fun s4 => k0 x0 s4))))
def f_X6_readOpening_40 (k0 : Nat → wg_M → Option (Int32 × wg_M)) (x0 : Nat) (σ : wg_M) : Option (Int32 × wg_M) := if (σ x0 14) < (8 : Int32) then (wg_st σ x0 14 ((σ x0 14) + (1 : Int32)) (fun s1 => wg_ga (wg_n Sc (wg_r Sc x0 3)) (s1 (wg_r Sc x0 3)) (s1 x0 7) (fun v2 => if v2 = (40 : Int32) then (f_X6_readOpening_89 k0 x0 (1 : Int32) (s1 x0 15) x0 s1) else (f_X6_readOpening_89 k0 x0 (0 : Int32) (s1 x0 15) x0 s1)))) else (wg_bd (f_X6_fail x0 (3 : Int32) σ) (fun v3 s4 => wg_bz v3 (some (v3, s4))))
def f_X6_readOpening_0  : Nat → Nat → wg_M → Option (Int32 × wg_M)
  | 0, _, _ => none
  | n + 1, x0, σ => if (σ x0 6) ≤ (σ x0 7) then (some ((1 : Int32), σ)) else (wg_ga (wg_n Sc (wg_r Sc x0 3)) (σ (wg_r Sc x0 3)) (σ x0 7) (fun v1 => if v1 = (40 : Int32) then (f_X6_readOpening_40 (f_X6_readOpening_0  n) x0 σ) else (wg_ga (wg_n Sc (wg_r Sc x0 3)) (σ (wg_r Sc x0 3)) (σ x0 7) (fun v2 => if v2 = (272 : Int32) then (f_X6_readOpening_40 (f_X6_readOpening_0  n) x0 σ) else (some ((1 : Int32), σ))))))
def f_X6_readOpening  (x0 : Nat) (σ : wg_M) : Option (Int32 × wg_M) := f_X6_readOpening_0  wg_N x0 σ
set_option maxRecDepth 20000 in
theorem g_X6_readOpening_89 (l : Launch) (E : wg_E) (k0 : Nat → wg_M → Option (Int32 × wg_M)) (x0 : Nat) (t0 : Int32) (t1 : Int32) (t2 : Nat) (σ : wg_M) (z : Int32 × wg_M) (hx0 : wg_t Sc x0 = 8) (ht2 : wg_t Sc t2 = 8) (hk0 : ∀ (x0 : Nat) (σ : wg_M), wg_t Sc x0 = 8 → k0 x0 σ = some z → wg_G l E Sc "WornWigs$Reader" cX6_readOpening 1 (some .boolean) rm_X6_readOpening (some z.1) z.2 0 [some (.ref x0)] [] σ) (h : f_X6_readOpening_89 k0 x0 t0 t1 t2 σ = some z) : wg_G l E Sc "WornWigs$Reader" cX6_readOpening 1 (some .boolean) rm_X6_readOpening (some z.1) z.2 89 [some (.ref x0)] [.int t0, .int t1, .ref t2] σ := by
  refine wr_iadd (wg_da dt_X6_readOpening 46 rfl) ?_
  refine wr_putI wfp_X6_225 (wg_da dt_X6_readOpening 47 rfl) ht2 h (fun s1 h => ?_)
  refine wr_aload_n (wg_da dt_X6_readOpening 48 rfl) rfl ?_
  refine wr_aload_n (wg_da dt_X6_readOpening 49 rfl) rfl ?_
  refine wr_getR wf_X6_15 (wg_da dt_X6_readOpening 50 rfl) hx0 ?_
  refine wr_aload_n (wg_da dt_X6_readOpening 51 rfl) rfl ?_
  refine wr_getI wf_X6_57 (wg_da dt_X6_readOpening 52 rfl) hx0 ?_
  refine wr_iald (wg_da dt_X6_readOpening 53 rfl) (wg_ty Sc_ok 6 3 0 hx0 rfl (by decide)).2 h (fun v2 h => ?_)
  refine wr_callVv [.int v2] [] (wg_da dt_X6_readOpening 54 rfl) ⟨wq_4_208, wq_4_210, wq_p2_10⟩ hx0 ⟨rfl, by decide⟩ wy_X6_await (fun q hq => m_X6_await l E x0 v2 hx0 _ q hq) rfl rfl (Nat.le_of_ble_eq_true rfl) ⟨rfl, rfl, by decide, by decide⟩ h (fun _ s3 h => ?_)
  refine wr_aload_n (wg_da dt_X6_readOpening 55 rfl) rfl ?_
  refine wr_dup (wg_da dt_X6_readOpening 56 rfl) ?_
  refine wr_getI wf_X6_57 (wg_da dt_X6_readOpening 57 rfl) hx0 ?_
  refine wr_iconst (1 : Int32) (wg_da dt_X6_readOpening 58 rfl) (by decide) ?_
  refine wr_iadd (wg_da dt_X6_readOpening 59 rfl) ?_
  refine wr_putI wfp_X6_57 (wg_da dt_X6_readOpening 60 rfl) hx0 h (fun s4 h => ?_)
  refine wr_goto 0 (wg_da dt_X6_readOpening 61 rfl) (by decide) ?_
  exact wr_wk [true] (hk0 x0 s4 hx0 h)
set_option maxRecDepth 20000 in
theorem g_X6_readOpening_40 (l : Launch) (E : wg_E) (k0 : Nat → wg_M → Option (Int32 × wg_M)) (x0 : Nat) (σ : wg_M) (z : Int32 × wg_M) (hx0 : wg_t Sc x0 = 8) (hk0 : ∀ (x0 : Nat) (σ : wg_M), wg_t Sc x0 = 8 → k0 x0 σ = some z → wg_G l E Sc "WornWigs$Reader" cX6_readOpening 1 (some .boolean) rm_X6_readOpening (some z.1) z.2 0 [some (.ref x0)] [] σ) (h : f_X6_readOpening_40 k0 x0 σ = some z) : wg_G l E Sc "WornWigs$Reader" cX6_readOpening 1 (some .boolean) rm_X6_readOpening (some z.1) z.2 40 [some (.ref x0)] [] σ := by
  refine wr_aload_n (wg_da dt_X6_readOpening 19 rfl) rfl ?_
  refine wr_getI wf_X6_222 (wg_da dt_X6_readOpening 20 rfl) hx0 ?_
  refine wr_bipush (8 : Int32) (wg_da dt_X6_readOpening 21 rfl) (by decide) ?_
  refine wr_icmp_lt 55 (wg_da dt_X6_readOpening 22 rfl) (by decide) h (fun h => ?_) (fun h => ?_)
  · refine wr_aload_n (wg_da dt_X6_readOpening 27 rfl) rfl ?_
    refine wr_dup (wg_da dt_X6_readOpening 28 rfl) ?_
    refine wr_getI wf_X6_222 (wg_da dt_X6_readOpening 29 rfl) hx0 ?_
    refine wr_iconst (1 : Int32) (wg_da dt_X6_readOpening 30 rfl) (by decide) ?_
    refine wr_iadd (wg_da dt_X6_readOpening 31 rfl) ?_
    refine wr_putI wfp_X6_222 (wg_da dt_X6_readOpening 32 rfl) hx0 h (fun s1 h => ?_)
    refine wr_aload_n (wg_da dt_X6_readOpening 33 rfl) rfl ?_
    refine wr_dup (wg_da dt_X6_readOpening 34 rfl) ?_
    refine wr_getI wf_X6_225 (wg_da dt_X6_readOpening 35 rfl) hx0 ?_
    refine wr_aload_n (wg_da dt_X6_readOpening 36 rfl) rfl ?_
    refine wr_getR wf_X6_15 (wg_da dt_X6_readOpening 37 rfl) hx0 ?_
    refine wr_aload_n (wg_da dt_X6_readOpening 38 rfl) rfl ?_
    refine wr_getI wf_X6_57 (wg_da dt_X6_readOpening 39 rfl) hx0 ?_
    refine wr_iald (wg_da dt_X6_readOpening 40 rfl) (wg_ty Sc_ok 6 3 0 hx0 rfl (by decide)).2 h (fun v2 h => ?_)
    refine wr_bipush (40 : Int32) (wg_da dt_X6_readOpening 41 rfl) (by decide) ?_
    refine wr_icmp_ne 88 (wg_da dt_X6_readOpening 42 rfl) (by decide) h (fun h => ?_) (fun h => ?_)
    · refine wr_iconst (1 : Int32) (wg_da dt_X6_readOpening 43 rfl) (by decide) ?_
      refine wr_goto 89 (wg_da dt_X6_readOpening 44 rfl) (by decide) ?_
      exact wr_wk [true] (g_X6_readOpening_89 l E k0 x0 (1 : Int32) (s1 x0 15) x0 s1 _ hx0 hx0 hk0 h)
    · refine wr_iconst (0 : Int32) (wg_da dt_X6_readOpening 45 rfl) (by decide) ?_
      exact wr_wk [true] (g_X6_readOpening_89 l E k0 x0 (0 : Int32) (s1 x0 15) x0 s1 _ hx0 hx0 hk0 h)
  · refine wr_aload_n (wg_da dt_X6_readOpening 23 rfl) rfl ?_
    refine wr_iconst (3 : Int32) (wg_da dt_X6_readOpening 24 rfl) (by decide) ?_
    refine wr_callVi [.int (3 : Int32)] [] (wg_da dt_X6_readOpening 25 rfl) ⟨wq_4_176, wq_4_178, wq_p2_3⟩ hx0 ⟨rfl, by decide⟩ wy_X6_fail (fun q hq => m_X6_fail l E x0 (3 : Int32) hx0 _ q hq) rfl rfl (Nat.le_of_ble_eq_true rfl) ⟨rfl, rfl, by decide, by decide⟩ h (fun v3 s4 h => ?_)
    exact wr_zret (wg_da dt_X6_readOpening 26 rfl) h
set_option maxRecDepth 20000 in
theorem g_X6_readOpening_0 (l : Launch) (E : wg_E)  (z : Int32 × wg_M) : ∀ (n : Nat) (x0 : Nat) (σ : wg_M) (hx0 : wg_t Sc x0 = 8) (h : f_X6_readOpening_0  n x0 σ = some z), wg_G l E Sc "WornWigs$Reader" cX6_readOpening 1 (some .boolean) rm_X6_readOpening (some z.1) z.2 0 [some (.ref x0)] [] σ := by
  intro n
  induction n with
  | zero => intro x0 σ hx0 h; cases h
  | succ n ih =>
    intro x0 σ hx0 h
    refine wr_aload_n (wg_da dt_X6_readOpening 0 rfl) rfl ?_
    refine wr_getI wf_X6_57 (wg_da dt_X6_readOpening 1 rfl) hx0 ?_
    refine wr_aload_n (wg_da dt_X6_readOpening 2 rfl) rfl ?_
    refine wr_getI wf_X6_60 (wg_da dt_X6_readOpening 3 rfl) hx0 ?_
    refine wr_icmp_ge 119 (wg_da dt_X6_readOpening 4 rfl) (by decide) h (fun h => ?_) (fun h => ?_)
    · refine wr_iconst (1 : Int32) (wg_da dt_X6_readOpening 62 rfl) (by decide) ?_
      exact wr_zret1 (wg_da dt_X6_readOpening 63 rfl) h
    · refine wr_aload_n (wg_da dt_X6_readOpening 5 rfl) rfl ?_
      refine wr_getR wf_X6_15 (wg_da dt_X6_readOpening 6 rfl) hx0 ?_
      refine wr_aload_n (wg_da dt_X6_readOpening 7 rfl) rfl ?_
      refine wr_getI wf_X6_57 (wg_da dt_X6_readOpening 8 rfl) hx0 ?_
      refine wr_iald (wg_da dt_X6_readOpening 9 rfl) (wg_ty Sc_ok 6 3 0 hx0 rfl (by decide)).2 h (fun v1 h => ?_)
      refine wr_bipush (40 : Int32) (wg_da dt_X6_readOpening 10 rfl) (by decide) ?_
      refine wr_icmp_eq 40 (wg_da dt_X6_readOpening 11 rfl) (by decide) h (fun h => ?_) (fun h => ?_)
      · exact wr_wk [true] (g_X6_readOpening_40 l E (f_X6_readOpening_0  n) x0 σ _ hx0 (fun x0 σ hx0 h => ih x0 σ hx0 h) h)
      · refine wr_aload_n (wg_da dt_X6_readOpening 12 rfl) rfl ?_
        refine wr_getR wf_X6_15 (wg_da dt_X6_readOpening 13 rfl) hx0 ?_
        refine wr_aload_n (wg_da dt_X6_readOpening 14 rfl) rfl ?_
        refine wr_getI wf_X6_57 (wg_da dt_X6_readOpening 15 rfl) hx0 ?_
        refine wr_iald (wg_da dt_X6_readOpening 16 rfl) (wg_ty Sc_ok 6 3 0 hx0 rfl (by decide)).2 h (fun v2 h => ?_)
        refine wr_sipush (272 : Int32) (wg_da dt_X6_readOpening 17 rfl) (by decide) ?_
        refine wr_icmp_ne 119 (wg_da dt_X6_readOpening 18 rfl) (by decide) h (fun h => ?_) (fun h => ?_)
        · exact wr_wk [true] (g_X6_readOpening_40 l E (f_X6_readOpening_0  n) x0 σ _ hx0 (fun x0 σ hx0 h => ih x0 σ hx0 h) h)
        · refine wr_iconst (1 : Int32) (wg_da dt_X6_readOpening 62 rfl) (by decide) ?_
          exact wr_zret1 (wg_da dt_X6_readOpening 63 rfl) h
set_option maxRecDepth 20000 in
theorem g_X6_readOpening_e (l : Launch) (E : wg_E)  (x0 : Nat) (σ : wg_M) (z : Int32 × wg_M) (hx0 : wg_t Sc x0 = 8) (h : f_X6_readOpening  x0 σ = some z) : wg_G l E Sc "WornWigs$Reader" cX6_readOpening 1 (some .boolean) rm_X6_readOpening (some z.1) z.2 0 [some (.ref x0)] [] σ := by
  exact wr_wk [true] (g_X6_readOpening_0 l E  _  wg_N x0 σ hx0 h)
theorem m_X6_readOpening (l : Launch) (E : wg_E) (x0 : Nat) (hx0 : wg_t Sc x0 = 8) (σ : wg_M) (q : Int32 × wg_M) (h : f_X6_readOpening x0 σ = some q) : wg_MG l E Sc yX6_readOpening cX6_readOpening 1 (some .boolean) rm_X6_readOpening [.ref x0] σ (some q.1) q.2 :=
  wg_met [.ref x0] (plainFor_of_name (by decide)) (Nat.le_of_ble_eq_true rfl) (g_X6_readOpening_e l E x0 σ q hx0 h)
abbrev rm_X6_isAwaited : Room := { frames := 0, cells := 0, slots := 0, locals := 0 }
def tb_X6_isAwaited : List (Nat × Instr × Nat) := [(0, .aload_n 0, 1), (1, .getfield 219, 3), (4, .ifCond .le 22, 3), (7, .aload_n 0, 1), (8, .getfield 44, 3), (11, .aload_n 0, 1), (12, .getfield 219, 3), (15, .iconst 1, 1), (16, .isub, 1), (17, .iaload, 1), (18, .iload_n 1, 1), (19, .if_icmp .ne 7, 3), (22, .iconst 1, 1), (23, .goto 4, 3), (26, .iconst 0, 1), (27, .ireturn, 1)]
theorem dt_X6_isAwaited : wg_dc cX6_isAwaited tb_X6_isAwaited := by unfold wg_dc; decide +kernel
def f_X6_isAwaited  (x0 : Nat) (x1 : Int32) (σ : wg_M) : Option (Int32 × wg_M) := if (σ x0 13) ≤ 0 then (some ((0 : Int32), σ)) else (wg_ga (wg_n Sc (wg_r Sc x0 12)) (σ (wg_r Sc x0 12)) ((σ x0 13) - (1 : Int32)) (fun v1 => if v1 = x1 then (some ((1 : Int32), σ)) else (some ((0 : Int32), σ))))
set_option maxRecDepth 20000 in
theorem g_X6_isAwaited_e (l : Launch) (E : wg_E)  (x0 : Nat) (x1 : Int32) (σ : wg_M) (z : Int32 × wg_M) (hx0 : wg_t Sc x0 = 8) (h : f_X6_isAwaited  x0 x1 σ = some z) : wg_G l E Sc "WornWigs$Reader" cX6_isAwaited 2 (some .boolean) rm_X6_isAwaited (some z.1) z.2 0 [some (.ref x0), some (.int x1)] [] σ := by
  refine wr_aload_n (wg_da dt_X6_isAwaited 0 rfl) rfl ?_
  refine wr_getI wf_X6_219 (wg_da dt_X6_isAwaited 1 rfl) hx0 ?_
  refine wr_if_le 26 (wg_da dt_X6_isAwaited 2 rfl) (by decide) h (fun h => ?_) (fun h => ?_)
  · refine wr_iconst (0 : Int32) (wg_da dt_X6_isAwaited 14 rfl) (by decide) ?_
    exact wr_zret0 (wg_da dt_X6_isAwaited 15 rfl) h
  · refine wr_aload_n (wg_da dt_X6_isAwaited 3 rfl) rfl ?_
    refine wr_getR wf_X6_44 (wg_da dt_X6_isAwaited 4 rfl) hx0 ?_
    refine wr_aload_n (wg_da dt_X6_isAwaited 5 rfl) rfl ?_
    refine wr_getI wf_X6_219 (wg_da dt_X6_isAwaited 6 rfl) hx0 ?_
    refine wr_iconst (1 : Int32) (wg_da dt_X6_isAwaited 7 rfl) (by decide) ?_
    refine wr_isub (wg_da dt_X6_isAwaited 8 rfl) ?_
    refine wr_iald (wg_da dt_X6_isAwaited 9 rfl) (wg_ty Sc_ok 6 12 0 hx0 rfl (by decide)).2 h (fun v1 h => ?_)
    refine wr_iload_n (wg_da dt_X6_isAwaited 10 rfl) rfl ?_
    refine wr_icmp_ne 26 (wg_da dt_X6_isAwaited 11 rfl) (by decide) h (fun h => ?_) (fun h => ?_)
    · refine wr_iconst (1 : Int32) (wg_da dt_X6_isAwaited 12 rfl) (by decide) ?_
      refine wr_goto 27 (wg_da dt_X6_isAwaited 13 rfl) (by decide) ?_
      exact wr_zret1 (wg_da dt_X6_isAwaited 15 rfl) h
    · refine wr_iconst (0 : Int32) (wg_da dt_X6_isAwaited 14 rfl) (by decide) ?_
      exact wr_zret0 (wg_da dt_X6_isAwaited 15 rfl) h
theorem m_X6_isAwaited (l : Launch) (E : wg_E) (x0 : Nat) (x1 : Int32) (hx0 : wg_t Sc x0 = 8) (σ : wg_M) (q : Int32 × wg_M) (h : f_X6_isAwaited x0 x1 σ = some q) : wg_MG l E Sc yX6_isAwaited cX6_isAwaited 2 (some .boolean) rm_X6_isAwaited [.ref x0, .int x1] σ (some q.1) q.2 :=
  wg_met [.ref x0, .int x1] (plainFor_of_name (by decide)) (Nat.le_of_ble_eq_true rfl) (g_X6_isAwaited_e l E x0 x1 σ q hx0 h)
abbrev rm_X6_settle : Room := { frames := 1, cells := 0, slots := 0, locals := 22 }
def tb_X6_settle : List (Nat × Instr × Nat) := [(0, .aload_n 0, 1), (1, .getfield 219, 3), (4, .ifCond .le 54, 3), (7, .aload_n 0, 1), (8, .getfield 44, 3), (11, .aload_n 0, 1), (12, .getfield 219, 3), (15, .iconst 1, 1), (16, .isub, 1), (17, .iaload, 1), (18, .sipush 272, 3), (21, .if_icmp .ne 37, 3), (24, .aload_n 0, 1), (25, .getfield 31, 3), (28, .sipush 272, 3), (31, .iconst 0, 1), (32, .invokevirtual 212, 3), (35, .aload_n 0, 1), (36, .dup, 1), (37, .getfield 219, 3), (40, .iconst 1, 1), (41, .isub, 1), (42, .putfield 219, 3), (45, .aload_n 0, 1), (46, .dup, 1), (47, .getfield 222, 3), (50, .iconst 1, 1), (51, .isub, 1), (52, .putfield 222, 3), (55, .goto (-55), 3), (58, .aload_n 0, 1), (59, .sipush 271, 3), (62, .invokevirtual 240, 3), (65, .ifCond .eq 24, 3), (68, .aload_n 0, 1), (69, .getfield 31, 3), (72, .sipush 271, 3), (75, .iconst 0, 1), (76, .invokevirtual 212, 3), (79, .aload_n 0, 1), (80, .dup, 1), (81, .getfield 219, 3), (84, .iconst 1, 1), (85, .isub, 1), (86, .putfield 219, 3), (89, .aload_n 0, 1), (90, .getfield 15, 3), (93, .aload_n 0, 1), (94, .getfield 57, 3), (97, .iaload, 1), (98, .sipush 271, 3), (101, .if_icmp .eq 34, 3), (104, .aload_n 0, 1), (105, .sipush 270, 3), (108, .invokevirtual 240, 3), (111, .ifCond .eq 24, 3), (114, .aload_n 0, 1), (115, .getfield 31, 3), (118, .sipush 270, 3), (121, .iconst 0, 1), (122, .invokevirtual 212, 3), (125, .aload_n 0, 1), (126, .dup, 1), (127, .getfield 219, 3), (130, .iconst 1, 1), (131, .isub, 1), (132, .putfield 219, 3), (135, .return_, 1)]
theorem dt_X6_settle : wg_dc cX6_settle tb_X6_settle := by unfold wg_dc; decide +kernel
def f_X6_settle_89  (x0 : Nat) (σ : wg_M) : Option (Int32 × wg_M) := wg_ga (wg_n Sc (wg_r Sc x0 3)) (σ (wg_r Sc x0 3)) (σ x0 7) (fun v1 => if v1 = (271 : Int32) then (some (0, σ)) else (wg_bd (f_X6_isAwaited x0 (270 : Int32) σ) (fun v2 s3 => if v2 = 0 then (some (0, s3)) else (wg_bd (f_X3_put (wg_r Sc x0 10) (270 : Int32) (0 : Int32) s3) (fun _ s4 => wg_st s4 x0 13 ((s4 x0 13) - (1 : Int32)) (fun s5 => some (0, s5)))))))
def f_X6_settle_58  (x0 : Nat) (σ : wg_M) : Option (Int32 × wg_M) := wg_bd (f_X6_isAwaited x0 (271 : Int32) σ) (fun v1 s2 => if v1 = 0 then (f_X6_settle_89  x0 s2) else (wg_bd (f_X3_put (wg_r Sc x0 10) (271 : Int32) (0 : Int32) s2) (fun _ s3 => wg_st s3 x0 13 ((s3 x0 13) - (1 : Int32)) (fun s4 => f_X6_settle_89  x0 s4))))
def f_X6_settle_0  : Nat → Nat → wg_M → Option (Int32 × wg_M)
  | 0, _, _ => none
  | n + 1, x0, σ => if (σ x0 13) ≤ 0 then (f_X6_settle_58  x0 σ) else (wg_ga (wg_n Sc (wg_r Sc x0 12)) (σ (wg_r Sc x0 12)) ((σ x0 13) - (1 : Int32)) (fun v1 => if v1 = (272 : Int32) then (wg_bd (f_X3_put (wg_r Sc x0 10) (272 : Int32) (0 : Int32) σ) (fun _ s2 => wg_st s2 x0 13 ((s2 x0 13) - (1 : Int32)) (fun s3 => wg_st s3 x0 14 ((s3 x0 14) - (1 : Int32)) (fun s4 => f_X6_settle_0  n x0 s4)))) else (f_X6_settle_58  x0 σ)))
def f_X6_settle  (x0 : Nat) (σ : wg_M) : Option (Int32 × wg_M) := f_X6_settle_0  wg_N x0 σ
set_option maxRecDepth 20000 in
theorem g_X6_settle_89 (l : Launch) (E : wg_E)  (x0 : Nat) (σ : wg_M) (z : Int32 × wg_M) (hx0 : wg_t Sc x0 = 8) (h : f_X6_settle_89  x0 σ = some z) : wg_G l E Sc "WornWigs$Reader" cX6_settle 1 none rm_X6_settle none z.2 89 [some (.ref x0)] [] σ := by
  refine wr_aload_n (wg_da dt_X6_settle 45 rfl) rfl ?_
  refine wr_getR wf_X6_15 (wg_da dt_X6_settle 46 rfl) hx0 ?_
  refine wr_aload_n (wg_da dt_X6_settle 47 rfl) rfl ?_
  refine wr_getI wf_X6_57 (wg_da dt_X6_settle 48 rfl) hx0 ?_
  refine wr_iald (wg_da dt_X6_settle 49 rfl) (wg_ty Sc_ok 6 3 0 hx0 rfl (by decide)).2 h (fun v1 h => ?_)
  refine wr_sipush (271 : Int32) (wg_da dt_X6_settle 50 rfl) (by decide) ?_
  refine wr_icmp_eq 135 (wg_da dt_X6_settle 51 rfl) (by decide) h (fun h => ?_) (fun h => ?_)
  · exact wr_vret (wg_da dt_X6_settle 67 rfl) h
  · refine wr_aload_n (wg_da dt_X6_settle 52 rfl) rfl ?_
    refine wr_sipush (270 : Int32) (wg_da dt_X6_settle 53 rfl) (by decide) ?_
    refine wr_callVi [.int (270 : Int32)] [] (wg_da dt_X6_settle 54 rfl) ⟨wq_4_220, wq_4_222, wq_p2_13⟩ hx0 ⟨rfl, by decide⟩ wy_X6_isAwaited (fun q hq => m_X6_isAwaited l E x0 (270 : Int32) hx0 _ q hq) rfl rfl (Nat.le_of_ble_eq_true rfl) ⟨rfl, rfl, by decide, by decide⟩ h (fun v2 s3 h => ?_)
    refine wr_if_eq 135 (wg_da dt_X6_settle 55 rfl) (by decide) h (fun h => ?_) (fun h => ?_)
    · exact wr_vret (wg_da dt_X6_settle 67 rfl) h
    · refine wr_aload_n (wg_da dt_X6_settle 56 rfl) rfl ?_
      refine wr_getR wf_X6_31 (wg_da dt_X6_settle 57 rfl) hx0 ?_
      refine wr_sipush (270 : Int32) (wg_da dt_X6_settle 58 rfl) (by decide) ?_
      refine wr_iconst (0 : Int32) (wg_da dt_X6_settle 59 rfl) (by decide) ?_
      refine wr_callVv [.int (270 : Int32), .int (0 : Int32)] [] (wg_da dt_X6_settle 60 rfl) ⟨wq_4_192, wq_4_193, wq_4_194⟩ (wg_ty Sc_ok 6 10 5 hx0 rfl (by decide)).2 ⟨rfl, by decide⟩ wy_X3_put (fun q hq => m_X3_put l E (wg_r Sc x0 10) (270 : Int32) (0 : Int32) (wg_ty Sc_ok 6 10 5 hx0 rfl (by decide)).2 _ q hq) rfl rfl (Nat.le_of_ble_eq_true rfl) ⟨rfl, rfl, by decide, by decide⟩ h (fun _ s4 h => ?_)
      refine wr_aload_n (wg_da dt_X6_settle 61 rfl) rfl ?_
      refine wr_dup (wg_da dt_X6_settle 62 rfl) ?_
      refine wr_getI wf_X6_219 (wg_da dt_X6_settle 63 rfl) hx0 ?_
      refine wr_iconst (1 : Int32) (wg_da dt_X6_settle 64 rfl) (by decide) ?_
      refine wr_isub (wg_da dt_X6_settle 65 rfl) ?_
      refine wr_putI wfp_X6_219 (wg_da dt_X6_settle 66 rfl) hx0 h (fun s5 h => ?_)
      exact wr_vret (wg_da dt_X6_settle 67 rfl) h
set_option maxRecDepth 20000 in
theorem g_X6_settle_58 (l : Launch) (E : wg_E)  (x0 : Nat) (σ : wg_M) (z : Int32 × wg_M) (hx0 : wg_t Sc x0 = 8) (h : f_X6_settle_58  x0 σ = some z) : wg_G l E Sc "WornWigs$Reader" cX6_settle 1 none rm_X6_settle none z.2 58 [some (.ref x0)] [] σ := by
  refine wr_aload_n (wg_da dt_X6_settle 30 rfl) rfl ?_
  refine wr_sipush (271 : Int32) (wg_da dt_X6_settle 31 rfl) (by decide) ?_
  refine wr_callVi [.int (271 : Int32)] [] (wg_da dt_X6_settle 32 rfl) ⟨wq_4_220, wq_4_222, wq_p2_13⟩ hx0 ⟨rfl, by decide⟩ wy_X6_isAwaited (fun q hq => m_X6_isAwaited l E x0 (271 : Int32) hx0 _ q hq) rfl rfl (Nat.le_of_ble_eq_true rfl) ⟨rfl, rfl, by decide, by decide⟩ h (fun v1 s2 h => ?_)
  refine wr_if_eq 89 (wg_da dt_X6_settle 33 rfl) (by decide) h (fun h => ?_) (fun h => ?_)
  · exact wr_wk [true] (g_X6_settle_89 l E  x0 s2 _ hx0  h)
  · refine wr_aload_n (wg_da dt_X6_settle 34 rfl) rfl ?_
    refine wr_getR wf_X6_31 (wg_da dt_X6_settle 35 rfl) hx0 ?_
    refine wr_sipush (271 : Int32) (wg_da dt_X6_settle 36 rfl) (by decide) ?_
    refine wr_iconst (0 : Int32) (wg_da dt_X6_settle 37 rfl) (by decide) ?_
    refine wr_callVv [.int (271 : Int32), .int (0 : Int32)] [] (wg_da dt_X6_settle 38 rfl) ⟨wq_4_192, wq_4_193, wq_4_194⟩ (wg_ty Sc_ok 6 10 5 hx0 rfl (by decide)).2 ⟨rfl, by decide⟩ wy_X3_put (fun q hq => m_X3_put l E (wg_r Sc x0 10) (271 : Int32) (0 : Int32) (wg_ty Sc_ok 6 10 5 hx0 rfl (by decide)).2 _ q hq) rfl rfl (Nat.le_of_ble_eq_true rfl) ⟨rfl, rfl, by decide, by decide⟩ h (fun _ s3 h => ?_)
    refine wr_aload_n (wg_da dt_X6_settle 39 rfl) rfl ?_
    refine wr_dup (wg_da dt_X6_settle 40 rfl) ?_
    refine wr_getI wf_X6_219 (wg_da dt_X6_settle 41 rfl) hx0 ?_
    refine wr_iconst (1 : Int32) (wg_da dt_X6_settle 42 rfl) (by decide) ?_
    refine wr_isub (wg_da dt_X6_settle 43 rfl) ?_
    refine wr_putI wfp_X6_219 (wg_da dt_X6_settle 44 rfl) hx0 h (fun s4 h => ?_)
    exact wr_wk [true] (g_X6_settle_89 l E  x0 s4 _ hx0  h)
set_option maxRecDepth 20000 in
theorem g_X6_settle_0 (l : Launch) (E : wg_E)  (z : Int32 × wg_M) : ∀ (n : Nat) (x0 : Nat) (σ : wg_M) (hx0 : wg_t Sc x0 = 8) (h : f_X6_settle_0  n x0 σ = some z), wg_G l E Sc "WornWigs$Reader" cX6_settle 1 none rm_X6_settle none z.2 0 [some (.ref x0)] [] σ := by
  intro n
  induction n with
  | zero => intro x0 σ hx0 h; cases h
  | succ n ih =>
    intro x0 σ hx0 h
    refine wr_aload_n (wg_da dt_X6_settle 0 rfl) rfl ?_
    refine wr_getI wf_X6_219 (wg_da dt_X6_settle 1 rfl) hx0 ?_
    refine wr_if_le 58 (wg_da dt_X6_settle 2 rfl) (by decide) h (fun h => ?_) (fun h => ?_)
    · exact wr_wk [true] (g_X6_settle_58 l E  x0 σ _ hx0  h)
    · refine wr_aload_n (wg_da dt_X6_settle 3 rfl) rfl ?_
      refine wr_getR wf_X6_44 (wg_da dt_X6_settle 4 rfl) hx0 ?_
      refine wr_aload_n (wg_da dt_X6_settle 5 rfl) rfl ?_
      refine wr_getI wf_X6_219 (wg_da dt_X6_settle 6 rfl) hx0 ?_
      refine wr_iconst (1 : Int32) (wg_da dt_X6_settle 7 rfl) (by decide) ?_
      refine wr_isub (wg_da dt_X6_settle 8 rfl) ?_
      refine wr_iald (wg_da dt_X6_settle 9 rfl) (wg_ty Sc_ok 6 12 0 hx0 rfl (by decide)).2 h (fun v1 h => ?_)
      refine wr_sipush (272 : Int32) (wg_da dt_X6_settle 10 rfl) (by decide) ?_
      refine wr_icmp_ne 58 (wg_da dt_X6_settle 11 rfl) (by decide) h (fun h => ?_) (fun h => ?_)
      · refine wr_aload_n (wg_da dt_X6_settle 12 rfl) rfl ?_
        refine wr_getR wf_X6_31 (wg_da dt_X6_settle 13 rfl) hx0 ?_
        refine wr_sipush (272 : Int32) (wg_da dt_X6_settle 14 rfl) (by decide) ?_
        refine wr_iconst (0 : Int32) (wg_da dt_X6_settle 15 rfl) (by decide) ?_
        refine wr_callVv [.int (272 : Int32), .int (0 : Int32)] [] (wg_da dt_X6_settle 16 rfl) ⟨wq_4_192, wq_4_193, wq_4_194⟩ (wg_ty Sc_ok 6 10 5 hx0 rfl (by decide)).2 ⟨rfl, by decide⟩ wy_X3_put (fun q hq => m_X3_put l E (wg_r Sc x0 10) (272 : Int32) (0 : Int32) (wg_ty Sc_ok 6 10 5 hx0 rfl (by decide)).2 _ q hq) rfl rfl (Nat.le_of_ble_eq_true rfl) ⟨rfl, rfl, by decide, by decide⟩ h (fun _ s2 h => ?_)
        refine wr_aload_n (wg_da dt_X6_settle 17 rfl) rfl ?_
        refine wr_dup (wg_da dt_X6_settle 18 rfl) ?_
        refine wr_getI wf_X6_219 (wg_da dt_X6_settle 19 rfl) hx0 ?_
        refine wr_iconst (1 : Int32) (wg_da dt_X6_settle 20 rfl) (by decide) ?_
        refine wr_isub (wg_da dt_X6_settle 21 rfl) ?_
        refine wr_putI wfp_X6_219 (wg_da dt_X6_settle 22 rfl) hx0 h (fun s3 h => ?_)
        refine wr_aload_n (wg_da dt_X6_settle 23 rfl) rfl ?_
        refine wr_dup (wg_da dt_X6_settle 24 rfl) ?_
        refine wr_getI wf_X6_222 (wg_da dt_X6_settle 25 rfl) hx0 ?_
        refine wr_iconst (1 : Int32) (wg_da dt_X6_settle 26 rfl) (by decide) ?_
        refine wr_isub (wg_da dt_X6_settle 27 rfl) ?_
        refine wr_putI wfp_X6_222 (wg_da dt_X6_settle 28 rfl) hx0 h (fun s4 h => ?_)
        refine wr_goto 0 (wg_da dt_X6_settle 29 rfl) (by decide) ?_
        exact wr_wk [true] (ih x0 s4 hx0 h)
      · exact wr_wk [true] (g_X6_settle_58 l E  x0 σ _ hx0  h)
set_option maxRecDepth 20000 in
theorem g_X6_settle_e (l : Launch) (E : wg_E)  (x0 : Nat) (σ : wg_M) (z : Int32 × wg_M) (hx0 : wg_t Sc x0 = 8) (h : f_X6_settle  x0 σ = some z) : wg_G l E Sc "WornWigs$Reader" cX6_settle 1 none rm_X6_settle none z.2 0 [some (.ref x0)] [] σ := by
  exact wr_wk [true] (g_X6_settle_0 l E  _  wg_N x0 σ hx0 h)
theorem m_X6_settle (l : Launch) (E : wg_E) (x0 : Nat) (hx0 : wg_t Sc x0 = 8) (σ : wg_M) (q : Int32 × wg_M) (h : f_X6_settle x0 σ = some q) : wg_MG l E Sc yX6_settle cX6_settle 1 none rm_X6_settle [.ref x0] σ none q.2 :=
  wg_met [.ref x0] (plainFor_of_name (by decide)) (Nat.le_of_ble_eq_true rfl) (g_X6_settle_e l E x0 σ q hx0 h)
abbrev rm_X6_readClosing : Room := { frames := 2, cells := 0, slots := 0, locals := 42 }
def tb_X6_readClosing : List (Nat × Instr × Nat) := [(0, .aload_n 0, 1), (1, .invokevirtual 237, 3), (4, .aload_n 0, 1), (5, .getfield 57, 3), (8, .aload_n 0, 1), (9, .getfield 60, 3), (12, .if_icmp .ge 71, 3), (15, .aload_n 0, 1), (16, .getfield 15, 3), (19, .aload_n 0, 1), (20, .getfield 57, 3), (23, .iaload, 1), (24, .bipush 41, 2), (26, .if_icmp .ne 57, 3), (29, .aload_n 0, 1), (30, .getfield 225, 3), (33, .ifCond .le 50, 3), (36, .aload_n 0, 1), (37, .dup, 1), (38, .getfield 219, 3), (41, .iconst 1, 1), (42, .isub, 1), (43, .putfield 219, 3), (46, .aload_n 0, 1), (47, .dup, 1), (48, .getfield 225, 3), (51, .iconst 1, 1), (52, .isub, 1), (53, .putfield 225, 3), (56, .aload_n 0, 1), (57, .dup, 1), (58, .getfield 222, 3), (61, .iconst 1, 1), (62, .isub, 1), (63, .putfield 222, 3), (66, .aload_n 0, 1), (67, .dup, 1), (68, .getfield 57, 3), (71, .iconst 1, 1), (72, .iadd, 1), (73, .putfield 57, 3), (76, .aload_n 0, 1), (77, .invokevirtual 237, 3), (80, .goto (-76), 3), (83, .return_, 1)]
theorem dt_X6_readClosing : wg_dc cX6_readClosing tb_X6_readClosing := by unfold wg_dc; decide +kernel
def f_X6_readClosing_4  : Nat → Nat → wg_M → Option (Int32 × wg_M)
  | 0, _, _ => none
  | n + 1, x0, σ => if (σ x0 6) ≤ (σ x0 7) then (some (0, σ)) else (wg_ga (wg_n Sc (wg_r Sc x0 3)) (σ (wg_r Sc x0 3)) (σ x0 7) (fun v1 => if v1 = (41 : Int32) then (if (σ x0 15) ≤ 0 then (some (0, σ)) else (wg_st σ x0 13 ((σ x0 13) - (1 : Int32)) (fun s2 => wg_st s2 x0 15 ((s2 x0 15) - (1 : Int32)) (fun s3 => wg_st s3 x0 14 ((s3 x0 14) - (1 : Int32)) (fun s4 => wg_st s4 x0 7 ((s4 x0 7) + (1 : Int32)) (fun s5 => wg_bd (f_X6_settle x0 s5) (fun _ s6 => f_X6_readClosing_4  n x0 s6))))))) else (some (0, σ))))
def f_X6_readClosing  (x0 : Nat) (σ : wg_M) : Option (Int32 × wg_M) := wg_bd (f_X6_settle x0 σ) (fun _ s1 => f_X6_readClosing_4  wg_N x0 s1)
set_option maxRecDepth 20000 in
theorem g_X6_readClosing_4 (l : Launch) (E : wg_E)  (z : Int32 × wg_M) : ∀ (n : Nat) (x0 : Nat) (σ : wg_M) (hx0 : wg_t Sc x0 = 8) (h : f_X6_readClosing_4  n x0 σ = some z), wg_G l E Sc "WornWigs$Reader" cX6_readClosing 1 none rm_X6_readClosing none z.2 4 [some (.ref x0)] [] σ := by
  intro n
  induction n with
  | zero => intro x0 σ hx0 h; cases h
  | succ n ih =>
    intro x0 σ hx0 h
    refine wr_aload_n (wg_da dt_X6_readClosing 2 rfl) rfl ?_
    refine wr_getI wf_X6_57 (wg_da dt_X6_readClosing 3 rfl) hx0 ?_
    refine wr_aload_n (wg_da dt_X6_readClosing 4 rfl) rfl ?_
    refine wr_getI wf_X6_60 (wg_da dt_X6_readClosing 5 rfl) hx0 ?_
    refine wr_icmp_ge 83 (wg_da dt_X6_readClosing 6 rfl) (by decide) h (fun h => ?_) (fun h => ?_)
    · exact wr_vret (wg_da dt_X6_readClosing 44 rfl) h
    · refine wr_aload_n (wg_da dt_X6_readClosing 7 rfl) rfl ?_
      refine wr_getR wf_X6_15 (wg_da dt_X6_readClosing 8 rfl) hx0 ?_
      refine wr_aload_n (wg_da dt_X6_readClosing 9 rfl) rfl ?_
      refine wr_getI wf_X6_57 (wg_da dt_X6_readClosing 10 rfl) hx0 ?_
      refine wr_iald (wg_da dt_X6_readClosing 11 rfl) (wg_ty Sc_ok 6 3 0 hx0 rfl (by decide)).2 h (fun v1 h => ?_)
      refine wr_bipush (41 : Int32) (wg_da dt_X6_readClosing 12 rfl) (by decide) ?_
      refine wr_icmp_ne 83 (wg_da dt_X6_readClosing 13 rfl) (by decide) h (fun h => ?_) (fun h => ?_)
      · refine wr_aload_n (wg_da dt_X6_readClosing 14 rfl) rfl ?_
        refine wr_getI wf_X6_225 (wg_da dt_X6_readClosing 15 rfl) hx0 ?_
        refine wr_if_le 83 (wg_da dt_X6_readClosing 16 rfl) (by decide) h (fun h => ?_) (fun h => ?_)
        · exact wr_vret (wg_da dt_X6_readClosing 44 rfl) h
        · refine wr_aload_n (wg_da dt_X6_readClosing 17 rfl) rfl ?_
          refine wr_dup (wg_da dt_X6_readClosing 18 rfl) ?_
          refine wr_getI wf_X6_219 (wg_da dt_X6_readClosing 19 rfl) hx0 ?_
          refine wr_iconst (1 : Int32) (wg_da dt_X6_readClosing 20 rfl) (by decide) ?_
          refine wr_isub (wg_da dt_X6_readClosing 21 rfl) ?_
          refine wr_putI wfp_X6_219 (wg_da dt_X6_readClosing 22 rfl) hx0 h (fun s2 h => ?_)
          refine wr_aload_n (wg_da dt_X6_readClosing 23 rfl) rfl ?_
          refine wr_dup (wg_da dt_X6_readClosing 24 rfl) ?_
          refine wr_getI wf_X6_225 (wg_da dt_X6_readClosing 25 rfl) hx0 ?_
          refine wr_iconst (1 : Int32) (wg_da dt_X6_readClosing 26 rfl) (by decide) ?_
          refine wr_isub (wg_da dt_X6_readClosing 27 rfl) ?_
          refine wr_putI wfp_X6_225 (wg_da dt_X6_readClosing 28 rfl) hx0 h (fun s3 h => ?_)
          refine wr_aload_n (wg_da dt_X6_readClosing 29 rfl) rfl ?_
          refine wr_dup (wg_da dt_X6_readClosing 30 rfl) ?_
          refine wr_getI wf_X6_222 (wg_da dt_X6_readClosing 31 rfl) hx0 ?_
          refine wr_iconst (1 : Int32) (wg_da dt_X6_readClosing 32 rfl) (by decide) ?_
          refine wr_isub (wg_da dt_X6_readClosing 33 rfl) ?_
          refine wr_putI wfp_X6_222 (wg_da dt_X6_readClosing 34 rfl) hx0 h (fun s4 h => ?_)
          refine wr_aload_n (wg_da dt_X6_readClosing 35 rfl) rfl ?_
          refine wr_dup (wg_da dt_X6_readClosing 36 rfl) ?_
          refine wr_getI wf_X6_57 (wg_da dt_X6_readClosing 37 rfl) hx0 ?_
          refine wr_iconst (1 : Int32) (wg_da dt_X6_readClosing 38 rfl) (by decide) ?_
          refine wr_iadd (wg_da dt_X6_readClosing 39 rfl) ?_
          refine wr_putI wfp_X6_57 (wg_da dt_X6_readClosing 40 rfl) hx0 h (fun s5 h => ?_)
          refine wr_aload_n (wg_da dt_X6_readClosing 41 rfl) rfl ?_
          refine wr_callVv [] [] (wg_da dt_X6_readClosing 42 rfl) ⟨wq_4_216, wq_4_218, wq_p2_12⟩ hx0 ⟨rfl, by decide⟩ wy_X6_settle (fun q hq => m_X6_settle l E x0 hx0 _ q hq) rfl rfl (Nat.le_of_ble_eq_true rfl) ⟨rfl, rfl, by decide, by decide⟩ h (fun _ s6 h => ?_)
          refine wr_goto 4 (wg_da dt_X6_readClosing 43 rfl) (by decide) ?_
          exact wr_wk [true] (ih x0 s6 hx0 h)
      · exact wr_vret (wg_da dt_X6_readClosing 44 rfl) h
set_option maxRecDepth 20000 in
theorem g_X6_readClosing_e (l : Launch) (E : wg_E)  (x0 : Nat) (σ : wg_M) (z : Int32 × wg_M) (hx0 : wg_t Sc x0 = 8) (h : f_X6_readClosing  x0 σ = some z) : wg_G l E Sc "WornWigs$Reader" cX6_readClosing 1 none rm_X6_readClosing none z.2 0 [some (.ref x0)] [] σ := by
  refine wr_aload_n (wg_da dt_X6_readClosing 0 rfl) rfl ?_
  refine wr_callVv [] [] (wg_da dt_X6_readClosing 1 rfl) ⟨wq_4_216, wq_4_218, wq_p2_12⟩ hx0 ⟨rfl, by decide⟩ wy_X6_settle (fun q hq => m_X6_settle l E x0 hx0 _ q hq) rfl rfl (Nat.le_of_ble_eq_true rfl) ⟨rfl, rfl, by decide, by decide⟩ h (fun _ s1 h => ?_)
  exact wr_wk [true] (g_X6_readClosing_4 l E  _  wg_N x0 s1 hx0 h)
theorem m_X6_readClosing (l : Launch) (E : wg_E) (x0 : Nat) (hx0 : wg_t Sc x0 = 8) (σ : wg_M) (q : Int32 × wg_M) (h : f_X6_readClosing x0 σ = some q) : wg_MG l E Sc yX6_readClosing cX6_readClosing 1 none rm_X6_readClosing [.ref x0] σ none q.2 :=
  wg_met [.ref x0] (plainFor_of_name (by decide)) (Nat.le_of_ble_eq_true rfl) (g_X6_readClosing_e l E x0 σ q hx0 h)
abbrev rm_X6_readCondition : Room := { frames := 4, cells := 0, slots := 0, locals := 87 }
def tb_X6_readCondition : List (Nat × Instr × Nat) := [(0, .aload_n 0, 1), (1, .iconst 0, 1), (2, .putfield 219, 3), (5, .aload_n 0, 1), (6, .iconst 0, 1), (7, .putfield 222, 3), (10, .aload_n 0, 1), (11, .iconst 0, 1), (12, .putfield 225, 3), (15, .aload_n 0, 1), (16, .getfield 57, 3), (19, .aload_n 0, 1), (20, .getfield 60, 3), (23, .if_icmp .ge 162, 3), (26, .aload_n 0, 1), (27, .invokevirtual 228, 3), (30, .ifCond .eq 10, 3), (33, .aload_n 0, 1), (34, .invokevirtual 191, 3), (37, .ifCond .ne 5, 3), (40, .iconst 0, 1), (41, .ireturn, 1), (42, .aload_n 0, 1), (43, .getfield 15, 3), (46, .aload_n 0, 1), (47, .getfield 57, 3), (50, .iaload, 1), (51, .istore_n 1, 1), (52, .iload_n 1, 1), (53, .bipush 60, 2), (55, .if_icmp .eq 21, 3), (58, .iload_n 1, 1), (59, .bipush 61, 2), (61, .if_icmp .eq 15, 3), (64, .iload_n 1, 1), (65, .bipush 62, 2), (67, .if_icmp .eq 9, 3), (70, .aload_n 0, 1), (71, .iconst 1, 1), (72, .invokevirtual 102, 3), (75, .ireturn, 1), (76, .aload_n 0, 1), (77, .dup, 1), (78, .getfield 57, 3), (81, .iconst 1, 1), (82, .iadd, 1), (83, .putfield 57, 3), (86, .aload_n 0, 1), (87, .invokevirtual 191, 3), (90, .ifCond .ne 5, 3), (93, .iconst 0, 1), (94, .ireturn, 1), (95, .aload_n 0, 1), (96, .getfield 31, 3), (99, .iload_n 1, 1), (100, .iconst 0, 1), (101, .invokevirtual 212, 3), (104, .aload_n 0, 1), (105, .invokevirtual 231, 3), (108, .aload_n 0, 1), (109, .getfield 15, 3), (112, .aload_n 0, 1), (113, .getfield 57, 3), (116, .iaload, 1), (117, .sipush 271, 3), (120, .if_icmp .eq 39, 3), (123, .aload_n 0, 1), (124, .getfield 15, 3), (127, .aload_n 0, 1), (128, .getfield 57, 3), (131, .iaload, 1), (132, .sipush 270, 3), (135, .if_icmp .eq 24, 3), (138, .aload_n 0, 1), (139, .getfield 225, 3), (142, .ifCond .eq 11, 3), (145, .aload_n 0, 1), (146, .iconst 1, 1), (147, .invokevirtual 102, 3), (150, .ifCond .eq 7, 3), (153, .iconst 1, 1), (154, .goto 4, 3), (157, .iconst 0, 1), (158, .ireturn, 1), (159, .aload_n 0, 1), (160, .aload_n 0, 1), (161, .getfield 15, 3), (164, .aload_n 0, 1), (165, .getfield 57, 3), (168, .iaload, 1), (169, .invokevirtual 234, 3), (172, .aload_n 0, 1), (173, .dup, 1), (174, .getfield 57, 3), (177, .iconst 1, 1), (178, .iadd, 1), (179, .putfield 57, 3), (182, .goto (-167), 3), (185, .aload_n 0, 1), (186, .iconst 1, 1), (187, .invokevirtual 102, 3), (190, .ireturn, 1)]
theorem dt_X6_readCondition : wg_dc cX6_readCondition tb_X6_readCondition := by unfold wg_dc; decide +kernel
def f_X6_readCondition_153   (σ : wg_M) : Option (Int32 × wg_M) := some ((1 : Int32), σ)
def f_X6_readCondition_159 (k15 : Nat → wg_M → Option (Int32 × wg_M)) (x0 : Nat) (σ : wg_M) : Option (Int32 × wg_M) := wg_ga (wg_n Sc (wg_r Sc x0 3)) (σ (wg_r Sc x0 3)) (σ x0 7) (fun v1 => wg_bd (f_X6_await x0 v1 σ) (fun _ s2 => wg_st s2 x0 7 ((s2 x0 7) + (1 : Int32)) (fun s3 => k15 x0 s3)))
def f_X6_readCondition_76 (k15 : Nat → wg_M → Option (Int32 × wg_M)) (x0 : Nat) (x1 : Int32) (σ : wg_M) : Option (Int32 × wg_M) := wg_st σ x0 7 ((σ x0 7) + (1 : Int32)) (fun s1 => wg_bd (f_X6_readSum x0 s1) (fun v2 s3 => if v2 = 0 then (some ((0 : Int32), s3)) else (wg_bd (f_X3_put (wg_r Sc x0 10) x1 (0 : Int32) s3) (fun _ s4 => wg_bd (f_X6_readClosing x0 s4) (fun _ s5 => wg_ga (wg_n Sc (wg_r Sc x0 3)) (s5 (wg_r Sc x0 3)) (s5 x0 7) (fun v6 => if v6 = (271 : Int32) then (f_X6_readCondition_159 k15 x0 s5) else (wg_ga (wg_n Sc (wg_r Sc x0 3)) (s5 (wg_r Sc x0 3)) (s5 x0 7) (fun v7 => if v7 = (270 : Int32) then (f_X6_readCondition_159 k15 x0 s5) else (if (s5 x0 15) = 0 then (f_X6_readCondition_153   s5) else (wg_bd (f_X6_fail x0 (1 : Int32) s5) (fun v8 s9 => if v8 = 0 then (some ((0 : Int32), s9)) else (f_X6_readCondition_153   s9))))))))))))
def f_X6_readCondition_15  : Nat → Nat → wg_M → Option (Int32 × wg_M)
  | 0, _, _ => none
  | n + 1, x0, σ => if (σ x0 6) ≤ (σ x0 7) then (wg_bd (f_X6_fail x0 (1 : Int32) σ) (fun v1 s2 => wg_bz v1 (some (v1, s2)))) else (wg_bd (f_X6_readOpening x0 σ) (fun v3 s4 => if v3 = 0 then (some ((0 : Int32), s4)) else (wg_bd (f_X6_readSum x0 s4) (fun v5 s6 => if v5 = 0 then (some ((0 : Int32), s6)) else (wg_ga (wg_n Sc (wg_r Sc x0 3)) (s6 (wg_r Sc x0 3)) (s6 x0 7) (fun v7 => if v7 = (60 : Int32) then (f_X6_readCondition_76 (f_X6_readCondition_15  n) x0 v7 s6) else (if v7 = (61 : Int32) then (f_X6_readCondition_76 (f_X6_readCondition_15  n) x0 v7 s6) else (if v7 = (62 : Int32) then (f_X6_readCondition_76 (f_X6_readCondition_15  n) x0 v7 s6) else (wg_bd (f_X6_fail x0 (1 : Int32) s6) (fun v8 s9 => wg_bz v8 (some (v8, s9))))))))))))
def f_X6_readCondition  (x0 : Nat) (σ : wg_M) : Option (Int32 × wg_M) := wg_st σ x0 13 (0 : Int32) (fun s1 => wg_st s1 x0 14 (0 : Int32) (fun s2 => wg_st s2 x0 15 (0 : Int32) (fun s3 => f_X6_readCondition_15  wg_N x0 s3)))
set_option maxRecDepth 20000 in
theorem g_X6_readCondition_153 (l : Launch) (E : wg_E)   (σ : wg_M) (z : Int32 × wg_M)  (h : f_X6_readCondition_153   σ = some z) : wg_G l E Sc "WornWigs$Reader" cX6_readCondition 2 (some .boolean) rm_X6_readCondition (some z.1) z.2 153 [none, none] [] σ := by
  refine wr_iconst (1 : Int32) (wg_da dt_X6_readCondition 80 rfl) (by decide) ?_
  refine wr_goto 158 (wg_da dt_X6_readCondition 81 rfl) (by decide) ?_
  exact wr_zret1 (wg_da dt_X6_readCondition 83 rfl) h
set_option maxRecDepth 20000 in
theorem g_X6_readCondition_159 (l : Launch) (E : wg_E) (k15 : Nat → wg_M → Option (Int32 × wg_M)) (x0 : Nat) (σ : wg_M) (z : Int32 × wg_M) (hx0 : wg_t Sc x0 = 8) (hk15 : ∀ (x0 : Nat) (σ : wg_M), wg_t Sc x0 = 8 → k15 x0 σ = some z → wg_G l E Sc "WornWigs$Reader" cX6_readCondition 2 (some .boolean) rm_X6_readCondition (some z.1) z.2 15 [some (.ref x0), none] [] σ) (h : f_X6_readCondition_159 k15 x0 σ = some z) : wg_G l E Sc "WornWigs$Reader" cX6_readCondition 2 (some .boolean) rm_X6_readCondition (some z.1) z.2 159 [some (.ref x0), none] [] σ := by
  refine wr_aload_n (wg_da dt_X6_readCondition 84 rfl) rfl ?_
  refine wr_aload_n (wg_da dt_X6_readCondition 85 rfl) rfl ?_
  refine wr_getR wf_X6_15 (wg_da dt_X6_readCondition 86 rfl) hx0 ?_
  refine wr_aload_n (wg_da dt_X6_readCondition 87 rfl) rfl ?_
  refine wr_getI wf_X6_57 (wg_da dt_X6_readCondition 88 rfl) hx0 ?_
  refine wr_iald (wg_da dt_X6_readCondition 89 rfl) (wg_ty Sc_ok 6 3 0 hx0 rfl (by decide)).2 h (fun v1 h => ?_)
  refine wr_callVv [.int v1] [] (wg_da dt_X6_readCondition 90 rfl) ⟨wq_4_208, wq_4_210, wq_p2_10⟩ hx0 ⟨rfl, by decide⟩ wy_X6_await (fun q hq => m_X6_await l E x0 v1 hx0 _ q hq) rfl rfl (Nat.le_of_ble_eq_true rfl) ⟨rfl, rfl, by decide, by decide⟩ h (fun _ s2 h => ?_)
  refine wr_aload_n (wg_da dt_X6_readCondition 91 rfl) rfl ?_
  refine wr_dup (wg_da dt_X6_readCondition 92 rfl) ?_
  refine wr_getI wf_X6_57 (wg_da dt_X6_readCondition 93 rfl) hx0 ?_
  refine wr_iconst (1 : Int32) (wg_da dt_X6_readCondition 94 rfl) (by decide) ?_
  refine wr_iadd (wg_da dt_X6_readCondition 95 rfl) ?_
  refine wr_putI wfp_X6_57 (wg_da dt_X6_readCondition 96 rfl) hx0 h (fun s3 h => ?_)
  refine wr_goto 15 (wg_da dt_X6_readCondition 97 rfl) (by decide) ?_
  exact wr_wk [true, false] (hk15 x0 s3 hx0 h)
set_option maxRecDepth 20000 in
theorem g_X6_readCondition_76 (l : Launch) (E : wg_E) (k15 : Nat → wg_M → Option (Int32 × wg_M)) (x0 : Nat) (x1 : Int32) (σ : wg_M) (z : Int32 × wg_M) (hx0 : wg_t Sc x0 = 8) (hk15 : ∀ (x0 : Nat) (σ : wg_M), wg_t Sc x0 = 8 → k15 x0 σ = some z → wg_G l E Sc "WornWigs$Reader" cX6_readCondition 2 (some .boolean) rm_X6_readCondition (some z.1) z.2 15 [some (.ref x0), none] [] σ) (h : f_X6_readCondition_76 k15 x0 x1 σ = some z) : wg_G l E Sc "WornWigs$Reader" cX6_readCondition 2 (some .boolean) rm_X6_readCondition (some z.1) z.2 76 [some (.ref x0), some (.int x1)] [] σ := by
  refine wr_aload_n (wg_da dt_X6_readCondition 41 rfl) rfl ?_
  refine wr_dup (wg_da dt_X6_readCondition 42 rfl) ?_
  refine wr_getI wf_X6_57 (wg_da dt_X6_readCondition 43 rfl) hx0 ?_
  refine wr_iconst (1 : Int32) (wg_da dt_X6_readCondition 44 rfl) (by decide) ?_
  refine wr_iadd (wg_da dt_X6_readCondition 45 rfl) ?_
  refine wr_putI wfp_X6_57 (wg_da dt_X6_readCondition 46 rfl) hx0 h (fun s1 h => ?_)
  refine wr_aload_n (wg_da dt_X6_readCondition 47 rfl) rfl ?_
  refine wr_callVi [] [] (wg_da dt_X6_readCondition 48 rfl) ⟨wq_4_180, wq_4_182, wq_p2_4⟩ hx0 ⟨rfl, by decide⟩ wy_X6_readSum (fun q hq => m_X6_readSum l E x0 hx0 _ q hq) rfl rfl (Nat.le_of_ble_eq_true rfl) ⟨rfl, rfl, by decide, by decide⟩ h (fun v2 s3 h => ?_)
  refine wr_if_ne 95 (wg_da dt_X6_readCondition 49 rfl) (by decide) h (fun h => ?_) (fun h => ?_)
  · refine wr_iconst (0 : Int32) (wg_da dt_X6_readCondition 50 rfl) (by decide) ?_
    exact wr_zret0 (wg_da dt_X6_readCondition 51 rfl) h
  · refine wr_aload_n (wg_da dt_X6_readCondition 52 rfl) rfl ?_
    refine wr_getR wf_X6_31 (wg_da dt_X6_readCondition 53 rfl) hx0 ?_
    refine wr_iload_n (wg_da dt_X6_readCondition 54 rfl) rfl ?_
    refine wr_iconst (0 : Int32) (wg_da dt_X6_readCondition 55 rfl) (by decide) ?_
    refine wr_callVv [.int x1, .int (0 : Int32)] [] (wg_da dt_X6_readCondition 56 rfl) ⟨wq_4_192, wq_4_193, wq_4_194⟩ (wg_ty Sc_ok 6 10 5 hx0 rfl (by decide)).2 ⟨rfl, by decide⟩ wy_X3_put (fun q hq => m_X3_put l E (wg_r Sc x0 10) x1 (0 : Int32) (wg_ty Sc_ok 6 10 5 hx0 rfl (by decide)).2 _ q hq) rfl rfl (Nat.le_of_ble_eq_true rfl) ⟨rfl, rfl, by decide, by decide⟩ h (fun _ s4 h => ?_)
    refine wr_aload_n (wg_da dt_X6_readCondition 57 rfl) rfl ?_
    refine wr_callVv [] [] (wg_da dt_X6_readCondition 58 rfl) ⟨wq_4_212, wq_4_214, wq_p2_11⟩ hx0 ⟨rfl, by decide⟩ wy_X6_readClosing (fun q hq => m_X6_readClosing l E x0 hx0 _ q hq) rfl rfl (Nat.le_of_ble_eq_true rfl) ⟨rfl, rfl, by decide, by decide⟩ h (fun _ s5 h => ?_)
    refine wr_aload_n (wg_da dt_X6_readCondition 59 rfl) rfl ?_
    refine wr_getR wf_X6_15 (wg_da dt_X6_readCondition 60 rfl) hx0 ?_
    refine wr_aload_n (wg_da dt_X6_readCondition 61 rfl) rfl ?_
    refine wr_getI wf_X6_57 (wg_da dt_X6_readCondition 62 rfl) hx0 ?_
    refine wr_iald (wg_da dt_X6_readCondition 63 rfl) (wg_ty Sc_ok 6 3 0 hx0 rfl (by decide)).2 h (fun v6 h => ?_)
    refine wr_sipush (271 : Int32) (wg_da dt_X6_readCondition 64 rfl) (by decide) ?_
    refine wr_icmp_eq 159 (wg_da dt_X6_readCondition 65 rfl) (by decide) h (fun h => ?_) (fun h => ?_)
    · exact wr_wk [true, false] (g_X6_readCondition_159 l E k15 x0 s5 _ hx0 hk15 h)
    · refine wr_aload_n (wg_da dt_X6_readCondition 66 rfl) rfl ?_
      refine wr_getR wf_X6_15 (wg_da dt_X6_readCondition 67 rfl) hx0 ?_
      refine wr_aload_n (wg_da dt_X6_readCondition 68 rfl) rfl ?_
      refine wr_getI wf_X6_57 (wg_da dt_X6_readCondition 69 rfl) hx0 ?_
      refine wr_iald (wg_da dt_X6_readCondition 70 rfl) (wg_ty Sc_ok 6 3 0 hx0 rfl (by decide)).2 h (fun v7 h => ?_)
      refine wr_sipush (270 : Int32) (wg_da dt_X6_readCondition 71 rfl) (by decide) ?_
      refine wr_icmp_eq 159 (wg_da dt_X6_readCondition 72 rfl) (by decide) h (fun h => ?_) (fun h => ?_)
      · exact wr_wk [true, false] (g_X6_readCondition_159 l E k15 x0 s5 _ hx0 hk15 h)
      · refine wr_aload_n (wg_da dt_X6_readCondition 73 rfl) rfl ?_
        refine wr_getI wf_X6_225 (wg_da dt_X6_readCondition 74 rfl) hx0 ?_
        refine wr_if_eq 153 (wg_da dt_X6_readCondition 75 rfl) (by decide) h (fun h => ?_) (fun h => ?_)
        · exact wr_wk [false, false] (g_X6_readCondition_153 l E   s5 _   h)
        · refine wr_aload_n (wg_da dt_X6_readCondition 76 rfl) rfl ?_
          refine wr_iconst (1 : Int32) (wg_da dt_X6_readCondition 77 rfl) (by decide) ?_
          refine wr_callVi [.int (1 : Int32)] [] (wg_da dt_X6_readCondition 78 rfl) ⟨wq_4_176, wq_4_178, wq_p2_3⟩ hx0 ⟨rfl, by decide⟩ wy_X6_fail (fun q hq => m_X6_fail l E x0 (1 : Int32) hx0 _ q hq) rfl rfl (Nat.le_of_ble_eq_true rfl) ⟨rfl, rfl, by decide, by decide⟩ h (fun v8 s9 h => ?_)
          refine wr_if_eq 157 (wg_da dt_X6_readCondition 79 rfl) (by decide) h (fun h => ?_) (fun h => ?_)
          · refine wr_iconst (0 : Int32) (wg_da dt_X6_readCondition 82 rfl) (by decide) ?_
            exact wr_zret0 (wg_da dt_X6_readCondition 83 rfl) h
          · exact wr_wk [false, false] (g_X6_readCondition_153 l E   s9 _   h)
set_option maxRecDepth 20000 in
theorem g_X6_readCondition_15 (l : Launch) (E : wg_E)  (z : Int32 × wg_M) : ∀ (n : Nat) (x0 : Nat) (σ : wg_M) (hx0 : wg_t Sc x0 = 8) (h : f_X6_readCondition_15  n x0 σ = some z), wg_G l E Sc "WornWigs$Reader" cX6_readCondition 2 (some .boolean) rm_X6_readCondition (some z.1) z.2 15 [some (.ref x0), none] [] σ := by
  intro n
  induction n with
  | zero => intro x0 σ hx0 h; cases h
  | succ n ih =>
    intro x0 σ hx0 h
    refine wr_aload_n (wg_da dt_X6_readCondition 9 rfl) rfl ?_
    refine wr_getI wf_X6_57 (wg_da dt_X6_readCondition 10 rfl) hx0 ?_
    refine wr_aload_n (wg_da dt_X6_readCondition 11 rfl) rfl ?_
    refine wr_getI wf_X6_60 (wg_da dt_X6_readCondition 12 rfl) hx0 ?_
    refine wr_icmp_ge 185 (wg_da dt_X6_readCondition 13 rfl) (by decide) h (fun h => ?_) (fun h => ?_)
    · refine wr_aload_n (wg_da dt_X6_readCondition 98 rfl) rfl ?_
      refine wr_iconst (1 : Int32) (wg_da dt_X6_readCondition 99 rfl) (by decide) ?_
      refine wr_callVi [.int (1 : Int32)] [] (wg_da dt_X6_readCondition 100 rfl) ⟨wq_4_176, wq_4_178, wq_p2_3⟩ hx0 ⟨rfl, by decide⟩ wy_X6_fail (fun q hq => m_X6_fail l E x0 (1 : Int32) hx0 _ q hq) rfl rfl (Nat.le_of_ble_eq_true rfl) ⟨rfl, rfl, by decide, by decide⟩ h (fun v1 s2 h => ?_)
      exact wr_zret (wg_da dt_X6_readCondition 101 rfl) h
    · refine wr_aload_n (wg_da dt_X6_readCondition 14 rfl) rfl ?_
      refine wr_callVi [] [] (wg_da dt_X6_readCondition 15 rfl) ⟨wq_4_204, wq_4_206, wq_p2_9⟩ hx0 ⟨rfl, by decide⟩ wy_X6_readOpening (fun q hq => m_X6_readOpening l E x0 hx0 _ q hq) rfl rfl (Nat.le_of_ble_eq_true rfl) ⟨rfl, rfl, by decide, by decide⟩ h (fun v3 s4 h => ?_)
      refine wr_if_eq 40 (wg_da dt_X6_readCondition 16 rfl) (by decide) h (fun h => ?_) (fun h => ?_)
      · refine wr_iconst (0 : Int32) (wg_da dt_X6_readCondition 20 rfl) (by decide) ?_
        exact wr_zret0 (wg_da dt_X6_readCondition 21 rfl) h
      · refine wr_aload_n (wg_da dt_X6_readCondition 17 rfl) rfl ?_
        refine wr_callVi [] [] (wg_da dt_X6_readCondition 18 rfl) ⟨wq_4_180, wq_4_182, wq_p2_4⟩ hx0 ⟨rfl, by decide⟩ wy_X6_readSum (fun q hq => m_X6_readSum l E x0 hx0 _ q hq) rfl rfl (Nat.le_of_ble_eq_true rfl) ⟨rfl, rfl, by decide, by decide⟩ h (fun v5 s6 h => ?_)
        refine wr_if_ne 42 (wg_da dt_X6_readCondition 19 rfl) (by decide) h (fun h => ?_) (fun h => ?_)
        · refine wr_iconst (0 : Int32) (wg_da dt_X6_readCondition 20 rfl) (by decide) ?_
          exact wr_zret0 (wg_da dt_X6_readCondition 21 rfl) h
        · refine wr_aload_n (wg_da dt_X6_readCondition 22 rfl) rfl ?_
          refine wr_getR wf_X6_15 (wg_da dt_X6_readCondition 23 rfl) hx0 ?_
          refine wr_aload_n (wg_da dt_X6_readCondition 24 rfl) rfl ?_
          refine wr_getI wf_X6_57 (wg_da dt_X6_readCondition 25 rfl) hx0 ?_
          refine wr_iald (wg_da dt_X6_readCondition 26 rfl) (wg_ty Sc_ok 6 3 0 hx0 rfl (by decide)).2 h (fun v7 h => ?_)
          refine wr_istore_n (wg_da dt_X6_readCondition 27 rfl) (by decide) ?_
          refine wr_iload_n (wg_da dt_X6_readCondition 28 rfl) rfl ?_
          refine wr_bipush (60 : Int32) (wg_da dt_X6_readCondition 29 rfl) (by decide) ?_
          refine wr_icmp_eq 76 (wg_da dt_X6_readCondition 30 rfl) (by decide) h (fun h => ?_) (fun h => ?_)
          · exact wr_wk [true, true] (g_X6_readCondition_76 l E (f_X6_readCondition_15  n) x0 v7 s6 _ hx0 (fun x0 σ hx0 h => ih x0 σ hx0 h) h)
          · refine wr_iload_n (wg_da dt_X6_readCondition 31 rfl) rfl ?_
            refine wr_bipush (61 : Int32) (wg_da dt_X6_readCondition 32 rfl) (by decide) ?_
            refine wr_icmp_eq 76 (wg_da dt_X6_readCondition 33 rfl) (by decide) h (fun h => ?_) (fun h => ?_)
            · exact wr_wk [true, true] (g_X6_readCondition_76 l E (f_X6_readCondition_15  n) x0 v7 s6 _ hx0 (fun x0 σ hx0 h => ih x0 σ hx0 h) h)
            · refine wr_iload_n (wg_da dt_X6_readCondition 34 rfl) rfl ?_
              refine wr_bipush (62 : Int32) (wg_da dt_X6_readCondition 35 rfl) (by decide) ?_
              refine wr_icmp_eq 76 (wg_da dt_X6_readCondition 36 rfl) (by decide) h (fun h => ?_) (fun h => ?_)
              · exact wr_wk [true, true] (g_X6_readCondition_76 l E (f_X6_readCondition_15  n) x0 v7 s6 _ hx0 (fun x0 σ hx0 h => ih x0 σ hx0 h) h)
              · refine wr_aload_n (wg_da dt_X6_readCondition 37 rfl) rfl ?_
                refine wr_iconst (1 : Int32) (wg_da dt_X6_readCondition 38 rfl) (by decide) ?_
                refine wr_callVi [.int (1 : Int32)] [] (wg_da dt_X6_readCondition 39 rfl) ⟨wq_4_176, wq_4_178, wq_p2_3⟩ hx0 ⟨rfl, by decide⟩ wy_X6_fail (fun q hq => m_X6_fail l E x0 (1 : Int32) hx0 _ q hq) rfl rfl (Nat.le_of_ble_eq_true rfl) ⟨rfl, rfl, by decide, by decide⟩ h (fun v8 s9 h => ?_)
                exact wr_zret (wg_da dt_X6_readCondition 40 rfl) h
set_option maxRecDepth 20000 in
theorem g_X6_readCondition_e (l : Launch) (E : wg_E)  (x0 : Nat) (σ : wg_M) (z : Int32 × wg_M) (hx0 : wg_t Sc x0 = 8) (h : f_X6_readCondition  x0 σ = some z) : wg_G l E Sc "WornWigs$Reader" cX6_readCondition 2 (some .boolean) rm_X6_readCondition (some z.1) z.2 0 [some (.ref x0), none] [] σ := by
  refine wr_aload_n (wg_da dt_X6_readCondition 0 rfl) rfl ?_
  refine wr_iconst (0 : Int32) (wg_da dt_X6_readCondition 1 rfl) (by decide) ?_
  refine wr_putI wfp_X6_219 (wg_da dt_X6_readCondition 2 rfl) hx0 h (fun s1 h => ?_)
  refine wr_aload_n (wg_da dt_X6_readCondition 3 rfl) rfl ?_
  refine wr_iconst (0 : Int32) (wg_da dt_X6_readCondition 4 rfl) (by decide) ?_
  refine wr_putI wfp_X6_222 (wg_da dt_X6_readCondition 5 rfl) hx0 h (fun s2 h => ?_)
  refine wr_aload_n (wg_da dt_X6_readCondition 6 rfl) rfl ?_
  refine wr_iconst (0 : Int32) (wg_da dt_X6_readCondition 7 rfl) (by decide) ?_
  refine wr_putI wfp_X6_225 (wg_da dt_X6_readCondition 8 rfl) hx0 h (fun s3 h => ?_)
  exact wr_wk [true, false] (g_X6_readCondition_15 l E  _  wg_N x0 s3 hx0 h)
theorem m_X6_readCondition (l : Launch) (E : wg_E) (x0 : Nat) (hx0 : wg_t Sc x0 = 8) (σ : wg_M) (q : Int32 × wg_M) (h : f_X6_readCondition x0 σ = some q) : wg_MG l E Sc yX6_readCondition cX6_readCondition 2 (some .boolean) rm_X6_readCondition [.ref x0] σ (some q.1) q.2 :=
  wg_met [.ref x0] (plainFor_of_name (by decide)) (Nat.le_of_ble_eq_true rfl) (g_X6_readCondition_e l E x0 σ q hx0 h)
abbrev rm_X6_readLawLine : Room := { frames := 5, cells := 0, slots := 0, locals := 108 }
def tb_X6_readLawLine : List (Nat × Instr × Nat) := [(0, .aload_n 0, 1), (1, .getfield 15, 3), (4, .aload_n 0, 1), (5, .getfield 57, 3), (8, .iaload, 1), (9, .istore_n 1, 1), (10, .iload_n 1, 1), (11, .sipush 266, 3), (14, .if_icmp .eq 23, 3), (17, .iload_n 1, 1), (18, .sipush 267, 3), (21, .if_icmp .eq 16, 3), (24, .iload_n 1, 1), (25, .sipush 268, 3), (28, .if_icmp .eq 9, 3), (31, .aload_n 0, 1), (32, .iconst 1, 1), (33, .invokevirtual 102, 3), (36, .ireturn, 1), (37, .aload_n 0, 1), (38, .getfield 31, 3), (41, .getfield 189, 3), (44, .istore_n 2, 1), (45, .iload_n 2, 1), (46, .bipush 16, 2), (48, .if_icmp .lt 9, 3), (51, .aload_n 0, 1), (52, .iconst 3, 1), (53, .invokevirtual 102, 3), (56, .ireturn, 1), (57, .aload_n 0, 1), (58, .dup, 1), (59, .getfield 57, 3), (62, .iconst 1, 1), (63, .iadd, 1), (64, .putfield 57, 3), (67, .aload_n 0, 1), (68, .invokevirtual 191, 3), (71, .ifCond .ne 5, 3), (74, .iconst 0, 1), (75, .ireturn, 1), (76, .aload_n 0, 1), (77, .getfield 31, 3), (80, .getfield 194, 3), (83, .iload_n 2, 1), (84, .iload_n 1, 1), (85, .iastore, 1), (86, .aload_n 0, 1), (87, .getfield 31, 3), (90, .getfield 197, 3), (93, .iload_n 2, 1), (94, .aload_n 0, 1), (95, .getfield 31, 3), (98, .getfield 200, 3), (101, .iastore, 1), (102, .aload_n 0, 1), (103, .getfield 15, 3), (106, .aload_n 0, 1), (107, .getfield 57, 3), (110, .iaload, 1), (111, .sipush 269, 3), (114, .if_icmp .ne 22, 3), (117, .aload_n 0, 1), (118, .dup, 1), (119, .getfield 57, 3), (122, .iconst 1, 1), (123, .iadd, 1), (124, .putfield 57, 3), (127, .aload_n 0, 1), (128, .invokevirtual 203, 3), (131, .ifCond .ne 5, 3), (134, .iconst 0, 1), (135, .ireturn, 1), (136, .aload_n 0, 1), (137, .getfield 31, 3), (140, .getfield 206, 3), (143, .iload_n 2, 1), (144, .aload_n 0, 1), (145, .getfield 31, 3), (148, .getfield 200, 3), (151, .iastore, 1), (152, .aload_n 0, 1), (153, .getfield 31, 3), (156, .dup, 1), (157, .getfield 189, 3), (160, .iconst 1, 1), (161, .iadd, 1), (162, .putfield 189, 3), (165, .aload_n 0, 1), (166, .bipush 59, 2), (168, .invokevirtual 153, 3), (171, .ireturn, 1)]
theorem dt_X6_readLawLine : wg_dc cX6_readLawLine tb_X6_readLawLine := by unfold wg_dc; decide +kernel
def f_X6_readLawLine_136  (x0 : Nat) (x2 : Int32) (σ : wg_M) : Option (Int32 × wg_M) := wg_sa (wg_n Sc (wg_r Sc (wg_r Sc x0 10) 5)) σ (wg_r Sc (wg_r Sc x0 10) 5) x2 (σ (wg_r Sc x0 10) 2) (fun s1 => wg_st s1 (wg_r Sc x0 10) 6 ((s1 (wg_r Sc x0 10) 6) + (1 : Int32)) (fun s2 => wg_bd (f_X6_expect x0 (59 : Int32) s2) (fun v3 s4 => wg_bz v3 (some (v3, s4)))))
def f_X6_readLawLine_37  (x0 : Nat) (x1 : Int32) (σ : wg_M) : Option (Int32 × wg_M) := wg_let (σ (wg_r Sc x0 10) 6) (fun v1 => if v1 < (16 : Int32) then (wg_st σ x0 7 ((σ x0 7) + (1 : Int32)) (fun s2 => wg_bd (f_X6_readSum x0 s2) (fun v3 s4 => if v3 = 0 then (some ((0 : Int32), s4)) else (wg_sa (wg_n Sc (wg_r Sc (wg_r Sc x0 10) 3)) s4 (wg_r Sc (wg_r Sc x0 10) 3) v1 x1 (fun s5 => wg_sa (wg_n Sc (wg_r Sc (wg_r Sc x0 10) 4)) s5 (wg_r Sc (wg_r Sc x0 10) 4) v1 (s5 (wg_r Sc x0 10) 2) (fun s6 => wg_ga (wg_n Sc (wg_r Sc x0 3)) (s6 (wg_r Sc x0 3)) (s6 x0 7) (fun v7 => if v7 = (269 : Int32) then (wg_st s6 x0 7 ((s6 x0 7) + (1 : Int32)) (fun s8 => wg_bd (f_X6_readCondition x0 s8) (fun v9 s10 => if v9 = 0 then (some ((0 : Int32), s10)) else (f_X6_readLawLine_136  x0 v1 s10)))) else (f_X6_readLawLine_136  x0 v1 s6)))))))) else (wg_bd (f_X6_fail x0 (3 : Int32) σ) (fun v11 s12 => wg_bz v11 (some (v11, s12)))))
def f_X6_readLawLine  (x0 : Nat) (σ : wg_M) : Option (Int32 × wg_M) := wg_ga (wg_n Sc (wg_r Sc x0 3)) (σ (wg_r Sc x0 3)) (σ x0 7) (fun v1 => if v1 = (266 : Int32) then (f_X6_readLawLine_37  x0 v1 σ) else (if v1 = (267 : Int32) then (f_X6_readLawLine_37  x0 v1 σ) else (if v1 = (268 : Int32) then (f_X6_readLawLine_37  x0 v1 σ) else (wg_bd (f_X6_fail x0 (1 : Int32) σ) (fun v2 s3 => wg_bz v2 (some (v2, s3)))))))
set_option maxRecDepth 20000 in
theorem g_X6_readLawLine_136 (l : Launch) (E : wg_E)  (x0 : Nat) (x2 : Int32) (σ : wg_M) (z : Int32 × wg_M) (hx0 : wg_t Sc x0 = 8) (h : f_X6_readLawLine_136  x0 x2 σ = some z) : wg_G l E Sc "WornWigs$Reader" cX6_readLawLine 3 (some .boolean) rm_X6_readLawLine (some z.1) z.2 136 [some (.ref x0), none, some (.int x2)] [] σ := by
  refine wr_aload_n (wg_da dt_X6_readLawLine 73 rfl) rfl ?_
  refine wr_getR wf_X6_31 (wg_da dt_X6_readLawLine 74 rfl) hx0 ?_
  refine wr_getR wf_X6_206 (wg_da dt_X6_readLawLine 75 rfl) (wg_ty Sc_ok 6 10 5 hx0 rfl (by decide)).2 ?_
  refine wr_iload_n (wg_da dt_X6_readLawLine 76 rfl) rfl ?_
  refine wr_aload_n (wg_da dt_X6_readLawLine 77 rfl) rfl ?_
  refine wr_getR wf_X6_31 (wg_da dt_X6_readLawLine 78 rfl) hx0 ?_
  refine wr_getI wf_X6_200 (wg_da dt_X6_readLawLine 79 rfl) (wg_ty Sc_ok 6 10 5 hx0 rfl (by decide)).2 ?_
  refine wr_iast (wg_da dt_X6_readLawLine 80 rfl) (wg_ty Sc_ok 3 5 0 (wg_ty Sc_ok 6 10 5 hx0 rfl (by decide)).2 rfl (by decide)).2 h (fun s1 h => ?_)
  refine wr_aload_n (wg_da dt_X6_readLawLine 81 rfl) rfl ?_
  refine wr_getR wf_X6_31 (wg_da dt_X6_readLawLine 82 rfl) hx0 ?_
  refine wr_dup (wg_da dt_X6_readLawLine 83 rfl) ?_
  refine wr_getI wf_X6_189 (wg_da dt_X6_readLawLine 84 rfl) (wg_ty Sc_ok 6 10 5 hx0 rfl (by decide)).2 ?_
  refine wr_iconst (1 : Int32) (wg_da dt_X6_readLawLine 85 rfl) (by decide) ?_
  refine wr_iadd (wg_da dt_X6_readLawLine 86 rfl) ?_
  refine wr_putI wfp_X6_189 (wg_da dt_X6_readLawLine 87 rfl) (wg_ty Sc_ok 6 10 5 hx0 rfl (by decide)).2 h (fun s2 h => ?_)
  refine wr_aload_n (wg_da dt_X6_readLawLine 88 rfl) rfl ?_
  refine wr_bipush (59 : Int32) (wg_da dt_X6_readLawLine 89 rfl) (by decide) ?_
  refine wr_callVi [.int (59 : Int32)] [] (wg_da dt_X6_readLawLine 90 rfl) ⟨wq_4_224, wq_4_226, wq_p2_14⟩ hx0 ⟨rfl, by decide⟩ wy_X6_expect (fun q hq => m_X6_expect l E x0 (59 : Int32) hx0 _ q hq) rfl rfl (Nat.le_of_ble_eq_true rfl) ⟨rfl, rfl, by decide, by decide⟩ h (fun v3 s4 h => ?_)
  exact wr_zret (wg_da dt_X6_readLawLine 91 rfl) h
set_option maxRecDepth 20000 in
theorem g_X6_readLawLine_37 (l : Launch) (E : wg_E)  (x0 : Nat) (x1 : Int32) (σ : wg_M) (z : Int32 × wg_M) (hx0 : wg_t Sc x0 = 8) (h : f_X6_readLawLine_37  x0 x1 σ = some z) : wg_G l E Sc "WornWigs$Reader" cX6_readLawLine 3 (some .boolean) rm_X6_readLawLine (some z.1) z.2 37 [some (.ref x0), some (.int x1), none] [] σ := by
  refine wr_aload_n (wg_da dt_X6_readLawLine 19 rfl) rfl ?_
  refine wr_getR wf_X6_31 (wg_da dt_X6_readLawLine 20 rfl) hx0 ?_
  refine wr_getI wf_X6_189 (wg_da dt_X6_readLawLine 21 rfl) (wg_ty Sc_ok 6 10 5 hx0 rfl (by decide)).2 ?_
  refine wr_let h (fun v1 h => ?_)
  refine wr_istore_n (wg_da dt_X6_readLawLine 22 rfl) (by decide) ?_
  refine wr_iload_n (wg_da dt_X6_readLawLine 23 rfl) rfl ?_
  refine wr_bipush (16 : Int32) (wg_da dt_X6_readLawLine 24 rfl) (by decide) ?_
  refine wr_icmp_lt 57 (wg_da dt_X6_readLawLine 25 rfl) (by decide) h (fun h => ?_) (fun h => ?_)
  · refine wr_aload_n (wg_da dt_X6_readLawLine 30 rfl) rfl ?_
    refine wr_dup (wg_da dt_X6_readLawLine 31 rfl) ?_
    refine wr_getI wf_X6_57 (wg_da dt_X6_readLawLine 32 rfl) hx0 ?_
    refine wr_iconst (1 : Int32) (wg_da dt_X6_readLawLine 33 rfl) (by decide) ?_
    refine wr_iadd (wg_da dt_X6_readLawLine 34 rfl) ?_
    refine wr_putI wfp_X6_57 (wg_da dt_X6_readLawLine 35 rfl) hx0 h (fun s2 h => ?_)
    refine wr_aload_n (wg_da dt_X6_readLawLine 36 rfl) rfl ?_
    refine wr_callVi [] [] (wg_da dt_X6_readLawLine 37 rfl) ⟨wq_4_180, wq_4_182, wq_p2_4⟩ hx0 ⟨rfl, by decide⟩ wy_X6_readSum (fun q hq => m_X6_readSum l E x0 hx0 _ q hq) rfl rfl (Nat.le_of_ble_eq_true rfl) ⟨rfl, rfl, by decide, by decide⟩ h (fun v3 s4 h => ?_)
    refine wr_if_ne 76 (wg_da dt_X6_readLawLine 38 rfl) (by decide) h (fun h => ?_) (fun h => ?_)
    · refine wr_iconst (0 : Int32) (wg_da dt_X6_readLawLine 39 rfl) (by decide) ?_
      exact wr_zret0 (wg_da dt_X6_readLawLine 40 rfl) h
    · refine wr_aload_n (wg_da dt_X6_readLawLine 41 rfl) rfl ?_
      refine wr_getR wf_X6_31 (wg_da dt_X6_readLawLine 42 rfl) hx0 ?_
      refine wr_getR wf_X6_194 (wg_da dt_X6_readLawLine 43 rfl) (wg_ty Sc_ok 6 10 5 hx0 rfl (by decide)).2 ?_
      refine wr_iload_n (wg_da dt_X6_readLawLine 44 rfl) rfl ?_
      refine wr_iload_n (wg_da dt_X6_readLawLine 45 rfl) rfl ?_
      refine wr_iast (wg_da dt_X6_readLawLine 46 rfl) (wg_ty Sc_ok 3 3 0 (wg_ty Sc_ok 6 10 5 hx0 rfl (by decide)).2 rfl (by decide)).2 h (fun s5 h => ?_)
      refine wr_aload_n (wg_da dt_X6_readLawLine 47 rfl) rfl ?_
      refine wr_getR wf_X6_31 (wg_da dt_X6_readLawLine 48 rfl) hx0 ?_
      refine wr_getR wf_X6_197 (wg_da dt_X6_readLawLine 49 rfl) (wg_ty Sc_ok 6 10 5 hx0 rfl (by decide)).2 ?_
      refine wr_iload_n (wg_da dt_X6_readLawLine 50 rfl) rfl ?_
      refine wr_aload_n (wg_da dt_X6_readLawLine 51 rfl) rfl ?_
      refine wr_getR wf_X6_31 (wg_da dt_X6_readLawLine 52 rfl) hx0 ?_
      refine wr_getI wf_X6_200 (wg_da dt_X6_readLawLine 53 rfl) (wg_ty Sc_ok 6 10 5 hx0 rfl (by decide)).2 ?_
      refine wr_iast (wg_da dt_X6_readLawLine 54 rfl) (wg_ty Sc_ok 3 4 0 (wg_ty Sc_ok 6 10 5 hx0 rfl (by decide)).2 rfl (by decide)).2 h (fun s6 h => ?_)
      refine wr_aload_n (wg_da dt_X6_readLawLine 55 rfl) rfl ?_
      refine wr_getR wf_X6_15 (wg_da dt_X6_readLawLine 56 rfl) hx0 ?_
      refine wr_aload_n (wg_da dt_X6_readLawLine 57 rfl) rfl ?_
      refine wr_getI wf_X6_57 (wg_da dt_X6_readLawLine 58 rfl) hx0 ?_
      refine wr_iald (wg_da dt_X6_readLawLine 59 rfl) (wg_ty Sc_ok 6 3 0 hx0 rfl (by decide)).2 h (fun v7 h => ?_)
      refine wr_sipush (269 : Int32) (wg_da dt_X6_readLawLine 60 rfl) (by decide) ?_
      refine wr_icmp_ne 136 (wg_da dt_X6_readLawLine 61 rfl) (by decide) h (fun h => ?_) (fun h => ?_)
      · refine wr_aload_n (wg_da dt_X6_readLawLine 62 rfl) rfl ?_
        refine wr_dup (wg_da dt_X6_readLawLine 63 rfl) ?_
        refine wr_getI wf_X6_57 (wg_da dt_X6_readLawLine 64 rfl) hx0 ?_
        refine wr_iconst (1 : Int32) (wg_da dt_X6_readLawLine 65 rfl) (by decide) ?_
        refine wr_iadd (wg_da dt_X6_readLawLine 66 rfl) ?_
        refine wr_putI wfp_X6_57 (wg_da dt_X6_readLawLine 67 rfl) hx0 h (fun s8 h => ?_)
        refine wr_aload_n (wg_da dt_X6_readLawLine 68 rfl) rfl ?_
        refine wr_callVi [] [] (wg_da dt_X6_readLawLine 69 rfl) ⟨wq_4_200, wq_4_202, wq_p2_8⟩ hx0 ⟨rfl, by decide⟩ wy_X6_readCondition (fun q hq => m_X6_readCondition l E x0 hx0 _ q hq) rfl rfl (Nat.le_of_ble_eq_true rfl) ⟨rfl, rfl, by decide, by decide⟩ h (fun v9 s10 h => ?_)
        refine wr_if_ne 136 (wg_da dt_X6_readLawLine 70 rfl) (by decide) h (fun h => ?_) (fun h => ?_)
        · refine wr_iconst (0 : Int32) (wg_da dt_X6_readLawLine 71 rfl) (by decide) ?_
          exact wr_zret0 (wg_da dt_X6_readLawLine 72 rfl) h
        · exact wr_wk [true, false, true] (g_X6_readLawLine_136 l E  x0 v1 s10 _ hx0  h)
      · exact wr_wk [true, false, true] (g_X6_readLawLine_136 l E  x0 v1 s6 _ hx0  h)
  · refine wr_aload_n (wg_da dt_X6_readLawLine 26 rfl) rfl ?_
    refine wr_iconst (3 : Int32) (wg_da dt_X6_readLawLine 27 rfl) (by decide) ?_
    refine wr_callVi [.int (3 : Int32)] [] (wg_da dt_X6_readLawLine 28 rfl) ⟨wq_4_176, wq_4_178, wq_p2_3⟩ hx0 ⟨rfl, by decide⟩ wy_X6_fail (fun q hq => m_X6_fail l E x0 (3 : Int32) hx0 _ q hq) rfl rfl (Nat.le_of_ble_eq_true rfl) ⟨rfl, rfl, by decide, by decide⟩ h (fun v11 s12 h => ?_)
    exact wr_zret (wg_da dt_X6_readLawLine 29 rfl) h
set_option maxRecDepth 20000 in
theorem g_X6_readLawLine_e (l : Launch) (E : wg_E)  (x0 : Nat) (σ : wg_M) (z : Int32 × wg_M) (hx0 : wg_t Sc x0 = 8) (h : f_X6_readLawLine  x0 σ = some z) : wg_G l E Sc "WornWigs$Reader" cX6_readLawLine 3 (some .boolean) rm_X6_readLawLine (some z.1) z.2 0 [some (.ref x0), none, none] [] σ := by
  refine wr_aload_n (wg_da dt_X6_readLawLine 0 rfl) rfl ?_
  refine wr_getR wf_X6_15 (wg_da dt_X6_readLawLine 1 rfl) hx0 ?_
  refine wr_aload_n (wg_da dt_X6_readLawLine 2 rfl) rfl ?_
  refine wr_getI wf_X6_57 (wg_da dt_X6_readLawLine 3 rfl) hx0 ?_
  refine wr_iald (wg_da dt_X6_readLawLine 4 rfl) (wg_ty Sc_ok 6 3 0 hx0 rfl (by decide)).2 h (fun v1 h => ?_)
  refine wr_istore_n (wg_da dt_X6_readLawLine 5 rfl) (by decide) ?_
  refine wr_iload_n (wg_da dt_X6_readLawLine 6 rfl) rfl ?_
  refine wr_sipush (266 : Int32) (wg_da dt_X6_readLawLine 7 rfl) (by decide) ?_
  refine wr_icmp_eq 37 (wg_da dt_X6_readLawLine 8 rfl) (by decide) h (fun h => ?_) (fun h => ?_)
  · exact wr_wk [true, true, false] (g_X6_readLawLine_37 l E  x0 v1 σ _ hx0  h)
  · refine wr_iload_n (wg_da dt_X6_readLawLine 9 rfl) rfl ?_
    refine wr_sipush (267 : Int32) (wg_da dt_X6_readLawLine 10 rfl) (by decide) ?_
    refine wr_icmp_eq 37 (wg_da dt_X6_readLawLine 11 rfl) (by decide) h (fun h => ?_) (fun h => ?_)
    · exact wr_wk [true, true, false] (g_X6_readLawLine_37 l E  x0 v1 σ _ hx0  h)
    · refine wr_iload_n (wg_da dt_X6_readLawLine 12 rfl) rfl ?_
      refine wr_sipush (268 : Int32) (wg_da dt_X6_readLawLine 13 rfl) (by decide) ?_
      refine wr_icmp_eq 37 (wg_da dt_X6_readLawLine 14 rfl) (by decide) h (fun h => ?_) (fun h => ?_)
      · exact wr_wk [true, true, false] (g_X6_readLawLine_37 l E  x0 v1 σ _ hx0  h)
      · refine wr_aload_n (wg_da dt_X6_readLawLine 15 rfl) rfl ?_
        refine wr_iconst (1 : Int32) (wg_da dt_X6_readLawLine 16 rfl) (by decide) ?_
        refine wr_callVi [.int (1 : Int32)] [] (wg_da dt_X6_readLawLine 17 rfl) ⟨wq_4_176, wq_4_178, wq_p2_3⟩ hx0 ⟨rfl, by decide⟩ wy_X6_fail (fun q hq => m_X6_fail l E x0 (1 : Int32) hx0 _ q hq) rfl rfl (Nat.le_of_ble_eq_true rfl) ⟨rfl, rfl, by decide, by decide⟩ h (fun v2 s3 h => ?_)
        exact wr_zret (wg_da dt_X6_readLawLine 18 rfl) h
theorem m_X6_readLawLine (l : Launch) (E : wg_E) (x0 : Nat) (hx0 : wg_t Sc x0 = 8) (σ : wg_M) (q : Int32 × wg_M) (h : f_X6_readLawLine x0 σ = some q) : wg_MG l E Sc yX6_readLawLine cX6_readLawLine 3 (some .boolean) rm_X6_readLawLine [.ref x0] σ (some q.1) q.2 :=
  wg_met [.ref x0] (plainFor_of_name (by decide)) (Nat.le_of_ble_eq_true rfl) (g_X6_readLawLine_e l E x0 σ q hx0 h)
abbrev rm_X6_readLaw : Room := { frames := 6, cells := 0, slots := 0, locals := 130 }
def tb_X6_readLaw : List (Nat × Instr × Nat) := [(0, .aload_n 0, 1), (1, .getfield 31, 3), (4, .invokevirtual 179, 3), (7, .iconst 0, 1), (8, .istore_n 1, 1), (9, .iload_n 1, 1), (10, .bipush 16, 2), (12, .if_icmp .gt 31, 3), (15, .aload_n 0, 1), (16, .getfield 15, 3), (19, .aload_n 0, 1), (20, .getfield 57, 3), (23, .iaload, 1), (24, .iconst 1, 1), (25, .if_icmp .eq 18, 3), (28, .aload_n 0, 1), (29, .invokevirtual 182, 3), (32, .ifCond .ne 5, 3), (35, .iconst 0, 1), (36, .ireturn, 1), (37, .iinc 1 1, 3), (40, .goto (-31), 3), (43, .aload_n 0, 1), (44, .getfield 47, 3), (47, .getfield 185, 3), (50, .aload_n 0, 1), (51, .getfield 31, 3), (54, .invokevirtual 186, 3), (57, .iconst 1, 1), (58, .ireturn, 1)]
theorem dt_X6_readLaw : wg_dc cX6_readLaw tb_X6_readLaw := by unfold wg_dc; decide +kernel
def f_X6_readLaw_43  (x0 : Nat) (σ : wg_M) : Option (Int32 × wg_M) := wg_bd (f_X3_copyFrom (wg_r Sc (wg_r Sc x0 0) 2) (wg_r Sc x0 10) σ) (fun _ s1 => some ((1 : Int32), s1))
def f_X6_readLaw_9  : Nat → Nat → Int32 → wg_M → Option (Int32 × wg_M)
  | 0, _, _, _ => none
  | n + 1, x0, x1, σ => if (16 : Int32) < x1 then (f_X6_readLaw_43  x0 σ) else (wg_ga (wg_n Sc (wg_r Sc x0 3)) (σ (wg_r Sc x0 3)) (σ x0 7) (fun v1 => if v1 = (1 : Int32) then (f_X6_readLaw_43  x0 σ) else (wg_bd (f_X6_readLawLine x0 σ) (fun v2 s3 => if v2 = 0 then (some ((0 : Int32), s3)) else (wg_let (x1 + (1 : Int32)) (fun v4 => f_X6_readLaw_9  n x0 v4 s3))))))
def f_X6_readLaw  (x0 : Nat) (σ : wg_M) : Option (Int32 × wg_M) := wg_bd (f_X3_clear (wg_r Sc x0 10) σ) (fun _ s1 => f_X6_readLaw_9  wg_N x0 (0 : Int32) s1)
set_option maxRecDepth 20000 in
theorem g_X6_readLaw_43 (l : Launch) (E : wg_E)  (x0 : Nat) (σ : wg_M) (z : Int32 × wg_M) (hx0 : wg_t Sc x0 = 8) (h : f_X6_readLaw_43  x0 σ = some z) : wg_G l E Sc "WornWigs$Reader" cX6_readLaw 2 (some .boolean) rm_X6_readLaw (some z.1) z.2 43 [some (.ref x0), none] [] σ := by
  refine wr_aload_n (wg_da dt_X6_readLaw 22 rfl) rfl ?_
  refine wr_getR wf_X6_47 (wg_da dt_X6_readLaw 23 rfl) hx0 ?_
  refine wr_getR wf_X6_185 (wg_da dt_X6_readLaw 24 rfl) (wg_ty Sc_ok 6 0 12 hx0 rfl (by decide)).2 ?_
  refine wr_aload_n (wg_da dt_X6_readLaw 25 rfl) rfl ?_
  refine wr_getR wf_X6_31 (wg_da dt_X6_readLaw 26 rfl) hx0 ?_
  refine wr_callVv [.ref (wg_r Sc x0 10)] [] (wg_da dt_X6_readLaw 27 rfl) ⟨wq_4_228, wq_4_229, wq_4_230⟩ (wg_ty Sc_ok 10 2 5 (wg_ty Sc_ok 6 0 12 hx0 rfl (by decide)).2 rfl (by decide)).2 ⟨rfl, by decide⟩ wy_X3_copyFrom (fun q hq => m_X3_copyFrom l E (wg_r Sc (wg_r Sc x0 0) 2) (wg_r Sc x0 10) (wg_ty Sc_ok 10 2 5 (wg_ty Sc_ok 6 0 12 hx0 rfl (by decide)).2 rfl (by decide)).2 (wg_ty Sc_ok 6 10 5 hx0 rfl (by decide)).2 _ q hq) rfl rfl (Nat.le_of_ble_eq_true rfl) ⟨rfl, rfl, by decide, by decide⟩ h (fun _ s1 h => ?_)
  refine wr_iconst (1 : Int32) (wg_da dt_X6_readLaw 28 rfl) (by decide) ?_
  exact wr_zret1 (wg_da dt_X6_readLaw 29 rfl) h
set_option maxRecDepth 20000 in
theorem g_X6_readLaw_9 (l : Launch) (E : wg_E)  (z : Int32 × wg_M) : ∀ (n : Nat) (x0 : Nat) (x1 : Int32) (σ : wg_M) (hx0 : wg_t Sc x0 = 8) (h : f_X6_readLaw_9  n x0 x1 σ = some z), wg_G l E Sc "WornWigs$Reader" cX6_readLaw 2 (some .boolean) rm_X6_readLaw (some z.1) z.2 9 [some (.ref x0), some (.int x1)] [] σ := by
  intro n
  induction n with
  | zero => intro x0 x1 σ hx0 h; cases h
  | succ n ih =>
    intro x0 x1 σ hx0 h
    refine wr_iload_n (wg_da dt_X6_readLaw 5 rfl) rfl ?_
    refine wr_bipush (16 : Int32) (wg_da dt_X6_readLaw 6 rfl) (by decide) ?_
    refine wr_icmp_gt 43 (wg_da dt_X6_readLaw 7 rfl) (by decide) h (fun h => ?_) (fun h => ?_)
    · exact wr_wk [true, false] (g_X6_readLaw_43 l E  x0 σ _ hx0  h)
    · refine wr_aload_n (wg_da dt_X6_readLaw 8 rfl) rfl ?_
      refine wr_getR wf_X6_15 (wg_da dt_X6_readLaw 9 rfl) hx0 ?_
      refine wr_aload_n (wg_da dt_X6_readLaw 10 rfl) rfl ?_
      refine wr_getI wf_X6_57 (wg_da dt_X6_readLaw 11 rfl) hx0 ?_
      refine wr_iald (wg_da dt_X6_readLaw 12 rfl) (wg_ty Sc_ok 6 3 0 hx0 rfl (by decide)).2 h (fun v1 h => ?_)
      refine wr_iconst (1 : Int32) (wg_da dt_X6_readLaw 13 rfl) (by decide) ?_
      refine wr_icmp_eq 43 (wg_da dt_X6_readLaw 14 rfl) (by decide) h (fun h => ?_) (fun h => ?_)
      · exact wr_wk [true, false] (g_X6_readLaw_43 l E  x0 σ _ hx0  h)
      · refine wr_aload_n (wg_da dt_X6_readLaw 15 rfl) rfl ?_
        refine wr_callVi [] [] (wg_da dt_X6_readLaw 16 rfl) ⟨wq_4_172, wq_4_174, wq_p2_2⟩ hx0 ⟨rfl, by decide⟩ wy_X6_readLawLine (fun q hq => m_X6_readLawLine l E x0 hx0 _ q hq) rfl rfl (Nat.le_of_ble_eq_true rfl) ⟨rfl, rfl, by decide, by decide⟩ h (fun v2 s3 h => ?_)
        refine wr_if_ne 37 (wg_da dt_X6_readLaw 17 rfl) (by decide) h (fun h => ?_) (fun h => ?_)
        · refine wr_iconst (0 : Int32) (wg_da dt_X6_readLaw 18 rfl) (by decide) ?_
          exact wr_zret0 (wg_da dt_X6_readLaw 19 rfl) h
        · refine wr_iinc (c0 := (1 : Int32)) (wg_da dt_X6_readLaw 20 rfl) rfl (by decide) (by decide) h (fun v4 h => ?_)
          refine wr_goto 9 (wg_da dt_X6_readLaw 21 rfl) (by decide) ?_
          exact wr_wk [true, true] (ih x0 v4 s3 hx0 h)
set_option maxRecDepth 20000 in
theorem g_X6_readLaw_e (l : Launch) (E : wg_E)  (x0 : Nat) (σ : wg_M) (z : Int32 × wg_M) (hx0 : wg_t Sc x0 = 8) (h : f_X6_readLaw  x0 σ = some z) : wg_G l E Sc "WornWigs$Reader" cX6_readLaw 2 (some .boolean) rm_X6_readLaw (some z.1) z.2 0 [some (.ref x0), none] [] σ := by
  refine wr_aload_n (wg_da dt_X6_readLaw 0 rfl) rfl ?_
  refine wr_getR wf_X6_31 (wg_da dt_X6_readLaw 1 rfl) hx0 ?_
  refine wr_callVv [] [] (wg_da dt_X6_readLaw 2 rfl) ⟨wq_4_168, wq_4_169, wq_4_170⟩ (wg_ty Sc_ok 6 10 5 hx0 rfl (by decide)).2 ⟨rfl, by decide⟩ wy_X3_clear (fun q hq => m_X3_clear l E (wg_r Sc x0 10) (wg_ty Sc_ok 6 10 5 hx0 rfl (by decide)).2 _ q hq) rfl rfl (Nat.le_of_ble_eq_true rfl) ⟨rfl, rfl, by decide, by decide⟩ h (fun _ s1 h => ?_)
  refine wr_iconst (0 : Int32) (wg_da dt_X6_readLaw 3 rfl) (by decide) ?_
  refine wr_istore_n (wg_da dt_X6_readLaw 4 rfl) (by decide) ?_
  exact wr_wk [true, true] (g_X6_readLaw_9 l E  _  wg_N x0 (0 : Int32) s1 hx0 h)
theorem m_X6_readLaw (l : Launch) (E : wg_E) (x0 : Nat) (hx0 : wg_t Sc x0 = 8) (σ : wg_M) (q : Int32 × wg_M) (h : f_X6_readLaw x0 σ = some q) : wg_MG l E Sc yX6_readLaw cX6_readLaw 2 (some .boolean) rm_X6_readLaw [.ref x0] σ (some q.1) q.2 :=
  wg_met [.ref x0] (plainFor_of_name (by decide)) (Nat.le_of_ble_eq_true rfl) (g_X6_readLaw_e l E x0 σ q hx0 h)

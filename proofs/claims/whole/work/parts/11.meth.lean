abbrev rm_X9_moveRule : Room := { frames := 0, cells := 0, slots := 0, locals := 0 }
def tb_X9_moveRule : List (Nat × Instr × Nat) := [(0, .aload_n 0, 1), (1, .getfield 27, 3), (4, .iload_n 2, 1), (5, .aload_n 0, 1), (6, .getfield 27, 3), (9, .iload_n 1, 1), (10, .iaload, 1), (11, .iastore, 1), (12, .aload_n 0, 1), (13, .getfield 30, 3), (16, .iload_n 2, 1), (17, .aload_n 0, 1), (18, .getfield 30, 3), (21, .iload_n 1, 1), (22, .iaload, 1), (23, .iastore, 1), (24, .aload_n 0, 1), (25, .getfield 33, 3), (28, .iload_n 2, 1), (29, .aload_n 0, 1), (30, .getfield 33, 3), (33, .iload_n 1, 1), (34, .iaload, 1), (35, .iastore, 1), (36, .return_, 1)]
theorem dt_X9_moveRule : wg_dc cX9_moveRule tb_X9_moveRule := by unfold wg_dc; decide +kernel
def f_X9_moveRule  (x0 : Nat) (x1 : Int32) (x2 : Int32) (σ : wg_M) : Option (Int32 × wg_M) := wg_ga (wg_n Sc (wg_r Sc x0 5)) (σ (wg_r Sc x0 5)) x1 (fun v1 => wg_sa (wg_n Sc (wg_r Sc x0 5)) σ (wg_r Sc x0 5) x2 v1 (fun s2 => wg_ga (wg_n Sc (wg_r Sc x0 6)) (s2 (wg_r Sc x0 6)) x1 (fun v3 => wg_sa (wg_n Sc (wg_r Sc x0 6)) s2 (wg_r Sc x0 6) x2 v3 (fun s4 => wg_ga (wg_n Sc (wg_r Sc x0 7)) (s4 (wg_r Sc x0 7)) x1 (fun v5 => wg_sa (wg_n Sc (wg_r Sc x0 7)) s4 (wg_r Sc x0 7) x2 v5 (fun s6 => some (0, s6)))))))
set_option maxRecDepth 20000 in
theorem g_X9_moveRule_e (l : Launch) (E : wg_E)  (x0 : Nat) (x1 : Int32) (x2 : Int32) (σ : wg_M) (z : Int32 × wg_M) (hx0 : wg_t Sc x0 = 11) (h : f_X9_moveRule  x0 x1 x2 σ = some z) : wg_G l E Sc "WornWigs$Wigs" cX9_moveRule 3 none rm_X9_moveRule none z.2 0 [some (.ref x0), some (.int x1), some (.int x2)] [] σ := by
  refine wr_aload_n (wg_da dt_X9_moveRule 0 rfl) rfl ?_
  refine wr_getR wf_X9_27 (wg_da dt_X9_moveRule 1 rfl) hx0 ?_
  refine wr_iload_n (wg_da dt_X9_moveRule 2 rfl) rfl ?_
  refine wr_aload_n (wg_da dt_X9_moveRule 3 rfl) rfl ?_
  refine wr_getR wf_X9_27 (wg_da dt_X9_moveRule 4 rfl) hx0 ?_
  refine wr_iload_n (wg_da dt_X9_moveRule 5 rfl) rfl ?_
  refine wr_iald (wg_da dt_X9_moveRule 6 rfl) (wg_ty Sc_ok 9 5 0 hx0 rfl (by decide)).2 h (fun v1 h => ?_)
  refine wr_iast (wg_da dt_X9_moveRule 7 rfl) (wg_ty Sc_ok 9 5 0 hx0 rfl (by decide)).2 h (fun s2 h => ?_)
  refine wr_aload_n (wg_da dt_X9_moveRule 8 rfl) rfl ?_
  refine wr_getR wf_X9_30 (wg_da dt_X9_moveRule 9 rfl) hx0 ?_
  refine wr_iload_n (wg_da dt_X9_moveRule 10 rfl) rfl ?_
  refine wr_aload_n (wg_da dt_X9_moveRule 11 rfl) rfl ?_
  refine wr_getR wf_X9_30 (wg_da dt_X9_moveRule 12 rfl) hx0 ?_
  refine wr_iload_n (wg_da dt_X9_moveRule 13 rfl) rfl ?_
  refine wr_iald (wg_da dt_X9_moveRule 14 rfl) (wg_ty Sc_ok 9 6 0 hx0 rfl (by decide)).2 h (fun v3 h => ?_)
  refine wr_iast (wg_da dt_X9_moveRule 15 rfl) (wg_ty Sc_ok 9 6 0 hx0 rfl (by decide)).2 h (fun s4 h => ?_)
  refine wr_aload_n (wg_da dt_X9_moveRule 16 rfl) rfl ?_
  refine wr_getR wf_X9_33 (wg_da dt_X9_moveRule 17 rfl) hx0 ?_
  refine wr_iload_n (wg_da dt_X9_moveRule 18 rfl) rfl ?_
  refine wr_aload_n (wg_da dt_X9_moveRule 19 rfl) rfl ?_
  refine wr_getR wf_X9_33 (wg_da dt_X9_moveRule 20 rfl) hx0 ?_
  refine wr_iload_n (wg_da dt_X9_moveRule 21 rfl) rfl ?_
  refine wr_iald (wg_da dt_X9_moveRule 22 rfl) (wg_ty Sc_ok 9 7 0 hx0 rfl (by decide)).2 h (fun v5 h => ?_)
  refine wr_iast (wg_da dt_X9_moveRule 23 rfl) (wg_ty Sc_ok 9 7 0 hx0 rfl (by decide)).2 h (fun s6 h => ?_)
  exact wr_vret (wg_da dt_X9_moveRule 24 rfl) h
theorem m_X9_moveRule (l : Launch) (E : wg_E) (x0 : Nat) (x1 : Int32) (x2 : Int32) (hx0 : wg_t Sc x0 = 11) (σ : wg_M) (q : Int32 × wg_M) (h : f_X9_moveRule x0 x1 x2 σ = some q) : wg_MG l E Sc yX9_moveRule cX9_moveRule 3 none rm_X9_moveRule [.ref x0, .int x1, .int x2] σ none q.2 :=
  wg_met [.ref x0, .int x1, .int x2] (plainFor_of_name (by decide)) (Nat.le_of_ble_eq_true rfl) (g_X9_moveRule_e l E x0 x1 x2 σ q hx0 h)
abbrev rm_X9_rulesFor : Room := { frames := 0, cells := 0, slots := 0, locals := 0 }
def tb_X9_rulesFor : List (Nat × Instr × Nat) := [(0, .iconst 0, 1), (1, .istore 4, 2), (3, .iconst 0, 1), (4, .istore 5, 2), (6, .iload 5, 2), (8, .aload_n 0, 1), (9, .getfield 24, 3), (12, .iload_n 1, 1), (13, .iaload, 1), (14, .if_icmp .ge 65, 3), (17, .iload_n 1, 1), (18, .bipush 8, 2), (20, .imul, 1), (21, .iload 5, 2), (23, .iadd, 1), (24, .istore 6, 2), (26, .aload_n 0, 1), (27, .getfield 27, 3), (30, .iload 6, 2), (32, .iaload, 1), (33, .iload_n 2, 1), (34, .if_icmp .ne 39, 3), (37, .iload_n 3, 1), (38, .ifCond .eq 16, 3), (41, .aload_n 0, 1), (42, .getfield 30, 3), (45, .iload 6, 2), (47, .iaload, 1), (48, .ifCond .le 25, 3), (51, .goto 13, 3), (54, .aload_n 0, 1), (55, .getfield 30, 3), (58, .iload 6, 2), (60, .iaload, 1), (61, .ifCond .ge 12, 3), (64, .iload 4, 2), (66, .iconst 1, 1), (67, .iload 5, 2), (69, .ishl, 1), (70, .ior, 1), (71, .istore 4, 2), (73, .iinc 5 1, 3), (76, .goto (-70), 3), (79, .iload 4, 2), (81, .ireturn, 1)]
theorem dt_X9_rulesFor : wg_dc cX9_rulesFor tb_X9_rulesFor := by unfold wg_dc; decide +kernel
def f_X9_rulesFor_73 (k6 : Nat → Int32 → Int32 → Int32 → Int32 → Int32 → wg_M → Option (Int32 × wg_M)) (x0 : Nat) (x1 : Int32) (x2 : Int32) (x3 : Int32) (x4 : Int32) (x5 : Int32) (σ : wg_M) : Option (Int32 × wg_M) := wg_let (x5 + (1 : Int32)) (fun v1 => k6 x0 x1 x2 x3 x4 v1 σ)
def f_X9_rulesFor_64 (k6 : Nat → Int32 → Int32 → Int32 → Int32 → Int32 → wg_M → Option (Int32 × wg_M)) (x0 : Nat) (x1 : Int32) (x2 : Int32) (x3 : Int32) (x4 : Int32) (x5 : Int32) (σ : wg_M) : Option (Int32 × wg_M) := wg_let (x4 ||| ((1 : Int32) <<< (x5 &&& 31))) (fun v1 => f_X9_rulesFor_73 k6 x0 x1 x2 x3 v1 x5 σ)
def f_X9_rulesFor_6  : Nat → Nat → Int32 → Int32 → Int32 → Int32 → Int32 → wg_M → Option (Int32 × wg_M)
  | 0, _, _, _, _, _, _, _ => none
  | n + 1, x0, x1, x2, x3, x4, x5, σ => wg_ga (wg_n Sc (wg_r Sc x0 4)) (σ (wg_r Sc x0 4)) x1 (fun v1 => if v1 ≤ x5 then (some (x4, σ)) else (wg_let ((x1 * (8 : Int32)) + x5) (fun v2 => wg_ga (wg_n Sc (wg_r Sc x0 5)) (σ (wg_r Sc x0 5)) v2 (fun v3 => if v3 = x2 then (if x3 = 0 then (wg_ga (wg_n Sc (wg_r Sc x0 6)) (σ (wg_r Sc x0 6)) v2 (fun v4 => if 0 ≤ v4 then (f_X9_rulesFor_73 (f_X9_rulesFor_6  n) x0 x1 x2 x3 x4 x5 σ) else (f_X9_rulesFor_64 (f_X9_rulesFor_6  n) x0 x1 x2 x3 x4 x5 σ))) else (wg_ga (wg_n Sc (wg_r Sc x0 6)) (σ (wg_r Sc x0 6)) v2 (fun v5 => if v5 ≤ 0 then (f_X9_rulesFor_73 (f_X9_rulesFor_6  n) x0 x1 x2 x3 x4 x5 σ) else (f_X9_rulesFor_64 (f_X9_rulesFor_6  n) x0 x1 x2 x3 x4 x5 σ)))) else (f_X9_rulesFor_73 (f_X9_rulesFor_6  n) x0 x1 x2 x3 x4 x5 σ)))))
def f_X9_rulesFor  (x0 : Nat) (x1 : Int32) (x2 : Int32) (x3 : Int32) (σ : wg_M) : Option (Int32 × wg_M) := f_X9_rulesFor_6  wg_N x0 x1 x2 x3 (0 : Int32) (0 : Int32) σ
set_option maxRecDepth 20000 in
theorem g_X9_rulesFor_73 (l : Launch) (E : wg_E) (k6 : Nat → Int32 → Int32 → Int32 → Int32 → Int32 → wg_M → Option (Int32 × wg_M)) (x0 : Nat) (x1 : Int32) (x2 : Int32) (x3 : Int32) (x4 : Int32) (x5 : Int32) (σ : wg_M) (z : Int32 × wg_M) (hx0 : wg_t Sc x0 = 11) (hk6 : ∀ (x0 : Nat) (x1 : Int32) (x2 : Int32) (x3 : Int32) (x4 : Int32) (x5 : Int32) (σ : wg_M), wg_t Sc x0 = 11 → k6 x0 x1 x2 x3 x4 x5 σ = some z → wg_G l E Sc "WornWigs$Wigs" cX9_rulesFor 7 (some .int) rm_X9_rulesFor (some z.1) z.2 6 [some (.ref x0), some (.int x1), some (.int x2), some (.int x3), some (.int x4), some (.int x5), none] [] σ) (h : f_X9_rulesFor_73 k6 x0 x1 x2 x3 x4 x5 σ = some z) : wg_G l E Sc "WornWigs$Wigs" cX9_rulesFor 7 (some .int) rm_X9_rulesFor (some z.1) z.2 73 [some (.ref x0), some (.int x1), some (.int x2), some (.int x3), some (.int x4), some (.int x5), none] [] σ := by
  refine wr_iinc (c0 := (1 : Int32)) (wg_da dt_X9_rulesFor 41 rfl) rfl (by decide) (by decide) h (fun v1 h => ?_)
  refine wr_goto 6 (wg_da dt_X9_rulesFor 42 rfl) (by decide) ?_
  exact wr_wk [true, true, true, true, true, true, false] (hk6 x0 x1 x2 x3 x4 v1 σ hx0 h)
set_option maxRecDepth 20000 in
theorem g_X9_rulesFor_64 (l : Launch) (E : wg_E) (k6 : Nat → Int32 → Int32 → Int32 → Int32 → Int32 → wg_M → Option (Int32 × wg_M)) (x0 : Nat) (x1 : Int32) (x2 : Int32) (x3 : Int32) (x4 : Int32) (x5 : Int32) (σ : wg_M) (z : Int32 × wg_M) (hx0 : wg_t Sc x0 = 11) (hk6 : ∀ (x0 : Nat) (x1 : Int32) (x2 : Int32) (x3 : Int32) (x4 : Int32) (x5 : Int32) (σ : wg_M), wg_t Sc x0 = 11 → k6 x0 x1 x2 x3 x4 x5 σ = some z → wg_G l E Sc "WornWigs$Wigs" cX9_rulesFor 7 (some .int) rm_X9_rulesFor (some z.1) z.2 6 [some (.ref x0), some (.int x1), some (.int x2), some (.int x3), some (.int x4), some (.int x5), none] [] σ) (h : f_X9_rulesFor_64 k6 x0 x1 x2 x3 x4 x5 σ = some z) : wg_G l E Sc "WornWigs$Wigs" cX9_rulesFor 7 (some .int) rm_X9_rulesFor (some z.1) z.2 64 [some (.ref x0), some (.int x1), some (.int x2), some (.int x3), some (.int x4), some (.int x5), none] [] σ := by
  refine wr_iload (wg_da dt_X9_rulesFor 35 rfl) rfl ?_
  refine wr_iconst (1 : Int32) (wg_da dt_X9_rulesFor 36 rfl) (by decide) ?_
  refine wr_iload (wg_da dt_X9_rulesFor 37 rfl) rfl ?_
  refine wr_ishl (wg_da dt_X9_rulesFor 38 rfl) ?_
  refine wr_ior (wg_da dt_X9_rulesFor 39 rfl) ?_
  refine wr_let h (fun v1 h => ?_)
  refine wr_istore (wg_da dt_X9_rulesFor 40 rfl) (by decide) ?_
  exact wr_wk [true, true, true, true, true, true, false] (g_X9_rulesFor_73 l E k6 x0 x1 x2 x3 v1 x5 σ _ hx0 hk6 h)
set_option maxRecDepth 20000 in
theorem g_X9_rulesFor_6 (l : Launch) (E : wg_E)  (z : Int32 × wg_M) : ∀ (n : Nat) (x0 : Nat) (x1 : Int32) (x2 : Int32) (x3 : Int32) (x4 : Int32) (x5 : Int32) (σ : wg_M) (hx0 : wg_t Sc x0 = 11) (h : f_X9_rulesFor_6  n x0 x1 x2 x3 x4 x5 σ = some z), wg_G l E Sc "WornWigs$Wigs" cX9_rulesFor 7 (some .int) rm_X9_rulesFor (some z.1) z.2 6 [some (.ref x0), some (.int x1), some (.int x2), some (.int x3), some (.int x4), some (.int x5), none] [] σ := by
  intro n
  induction n with
  | zero => intro x0 x1 x2 x3 x4 x5 σ hx0 h; cases h
  | succ n ih =>
    intro x0 x1 x2 x3 x4 x5 σ hx0 h
    refine wr_iload (wg_da dt_X9_rulesFor 4 rfl) rfl ?_
    refine wr_aload_n (wg_da dt_X9_rulesFor 5 rfl) rfl ?_
    refine wr_getR wf_X9_24 (wg_da dt_X9_rulesFor 6 rfl) hx0 ?_
    refine wr_iload_n (wg_da dt_X9_rulesFor 7 rfl) rfl ?_
    refine wr_iald (wg_da dt_X9_rulesFor 8 rfl) (wg_ty Sc_ok 9 4 0 hx0 rfl (by decide)).2 h (fun v1 h => ?_)
    refine wr_icmp_ge 79 (wg_da dt_X9_rulesFor 9 rfl) (by decide) h (fun h => ?_) (fun h => ?_)
    · refine wr_iload (wg_da dt_X9_rulesFor 43 rfl) rfl ?_
      exact wr_iret (wg_da dt_X9_rulesFor 44 rfl) h
    · refine wr_iload_n (wg_da dt_X9_rulesFor 10 rfl) rfl ?_
      refine wr_bipush (8 : Int32) (wg_da dt_X9_rulesFor 11 rfl) (by decide) ?_
      refine wr_imul (wg_da dt_X9_rulesFor 12 rfl) ?_
      refine wr_iload (wg_da dt_X9_rulesFor 13 rfl) rfl ?_
      refine wr_iadd (wg_da dt_X9_rulesFor 14 rfl) ?_
      refine wr_let h (fun v2 h => ?_)
      refine wr_istore (wg_da dt_X9_rulesFor 15 rfl) (by decide) ?_
      refine wr_aload_n (wg_da dt_X9_rulesFor 16 rfl) rfl ?_
      refine wr_getR wf_X9_27 (wg_da dt_X9_rulesFor 17 rfl) hx0 ?_
      refine wr_iload (wg_da dt_X9_rulesFor 18 rfl) rfl ?_
      refine wr_iald (wg_da dt_X9_rulesFor 19 rfl) (wg_ty Sc_ok 9 5 0 hx0 rfl (by decide)).2 h (fun v3 h => ?_)
      refine wr_iload_n (wg_da dt_X9_rulesFor 20 rfl) rfl ?_
      refine wr_icmp_ne 73 (wg_da dt_X9_rulesFor 21 rfl) (by decide) h (fun h => ?_) (fun h => ?_)
      · refine wr_iload_n (wg_da dt_X9_rulesFor 22 rfl) rfl ?_
        refine wr_if_eq 54 (wg_da dt_X9_rulesFor 23 rfl) (by decide) h (fun h => ?_) (fun h => ?_)
        · refine wr_aload_n (wg_da dt_X9_rulesFor 30 rfl) rfl ?_
          refine wr_getR wf_X9_30 (wg_da dt_X9_rulesFor 31 rfl) hx0 ?_
          refine wr_iload (wg_da dt_X9_rulesFor 32 rfl) rfl ?_
          refine wr_iald (wg_da dt_X9_rulesFor 33 rfl) (wg_ty Sc_ok 9 6 0 hx0 rfl (by decide)).2 h (fun v4 h => ?_)
          refine wr_if_ge 73 (wg_da dt_X9_rulesFor 34 rfl) (by decide) h (fun h => ?_) (fun h => ?_)
          · exact wr_wk [true, true, true, true, true, true, false] (g_X9_rulesFor_73 l E (f_X9_rulesFor_6  n) x0 x1 x2 x3 x4 x5 σ _ hx0 (fun x0 x1 x2 x3 x4 x5 σ hx0 h => ih x0 x1 x2 x3 x4 x5 σ hx0 h) h)
          · exact wr_wk [true, true, true, true, true, true, false] (g_X9_rulesFor_64 l E (f_X9_rulesFor_6  n) x0 x1 x2 x3 x4 x5 σ _ hx0 (fun x0 x1 x2 x3 x4 x5 σ hx0 h => ih x0 x1 x2 x3 x4 x5 σ hx0 h) h)
        · refine wr_aload_n (wg_da dt_X9_rulesFor 24 rfl) rfl ?_
          refine wr_getR wf_X9_30 (wg_da dt_X9_rulesFor 25 rfl) hx0 ?_
          refine wr_iload (wg_da dt_X9_rulesFor 26 rfl) rfl ?_
          refine wr_iald (wg_da dt_X9_rulesFor 27 rfl) (wg_ty Sc_ok 9 6 0 hx0 rfl (by decide)).2 h (fun v5 h => ?_)
          refine wr_if_le 73 (wg_da dt_X9_rulesFor 28 rfl) (by decide) h (fun h => ?_) (fun h => ?_)
          · exact wr_wk [true, true, true, true, true, true, false] (g_X9_rulesFor_73 l E (f_X9_rulesFor_6  n) x0 x1 x2 x3 x4 x5 σ _ hx0 (fun x0 x1 x2 x3 x4 x5 σ hx0 h => ih x0 x1 x2 x3 x4 x5 σ hx0 h) h)
          · refine wr_goto 64 (wg_da dt_X9_rulesFor 29 rfl) (by decide) ?_
            exact wr_wk [true, true, true, true, true, true, false] (g_X9_rulesFor_64 l E (f_X9_rulesFor_6  n) x0 x1 x2 x3 x4 x5 σ _ hx0 (fun x0 x1 x2 x3 x4 x5 σ hx0 h => ih x0 x1 x2 x3 x4 x5 σ hx0 h) h)
      · exact wr_wk [true, true, true, true, true, true, false] (g_X9_rulesFor_73 l E (f_X9_rulesFor_6  n) x0 x1 x2 x3 x4 x5 σ _ hx0 (fun x0 x1 x2 x3 x4 x5 σ hx0 h => ih x0 x1 x2 x3 x4 x5 σ hx0 h) h)
set_option maxRecDepth 20000 in
theorem g_X9_rulesFor_e (l : Launch) (E : wg_E)  (x0 : Nat) (x1 : Int32) (x2 : Int32) (x3 : Int32) (σ : wg_M) (z : Int32 × wg_M) (hx0 : wg_t Sc x0 = 11) (h : f_X9_rulesFor  x0 x1 x2 x3 σ = some z) : wg_G l E Sc "WornWigs$Wigs" cX9_rulesFor 7 (some .int) rm_X9_rulesFor (some z.1) z.2 0 [some (.ref x0), some (.int x1), some (.int x2), some (.int x3), none, none, none] [] σ := by
  refine wr_iconst (0 : Int32) (wg_da dt_X9_rulesFor 0 rfl) (by decide) ?_
  refine wr_istore (wg_da dt_X9_rulesFor 1 rfl) (by decide) ?_
  refine wr_iconst (0 : Int32) (wg_da dt_X9_rulesFor 2 rfl) (by decide) ?_
  refine wr_istore (wg_da dt_X9_rulesFor 3 rfl) (by decide) ?_
  exact wr_wk [true, true, true, true, true, true, false] (g_X9_rulesFor_6 l E  _  wg_N x0 x1 x2 x3 (0 : Int32) (0 : Int32) σ hx0 h)
theorem m_X9_rulesFor (l : Launch) (E : wg_E) (x0 : Nat) (x1 : Int32) (x2 : Int32) (x3 : Int32) (hx0 : wg_t Sc x0 = 11) (σ : wg_M) (q : Int32 × wg_M) (h : f_X9_rulesFor x0 x1 x2 x3 σ = some q) : wg_MG l E Sc yX9_rulesFor cX9_rulesFor 7 (some .int) rm_X9_rulesFor [.ref x0, .int x1, .int x2, .int x3] σ (some q.1) q.2 :=
  wg_met [.ref x0, .int x1, .int x2, .int x3] (plainFor_of_name (by decide)) (Nat.le_of_ble_eq_true rfl) (g_X9_rulesFor_e l E x0 x1 x2 x3 σ q hx0 h)
abbrev rm_X9_itchAnew : Room := { frames := 1, cells := 0, slots := 0, locals := 26 }
def tb_X9_itchAnew : List (Nat × Instr × Nat) := [(0, .iconst 0, 1), (1, .istore_n 2, 1), (2, .iconst 0, 1), (3, .istore_n 3, 1), (4, .iload_n 3, 1), (5, .bipush 8, 2), (7, .if_icmp .ge 33, 3), (10, .iload_n 2, 1), (11, .aload_n 0, 1), (12, .iload_n 1, 1), (13, .iload_n 3, 1), (14, .iconst 0, 1), (15, .invokevirtual 60, 3), (18, .invokestatic 64, 3), (21, .aload_n 0, 1), (22, .iload_n 1, 1), (23, .iload_n 3, 1), (24, .iconst 1, 1), (25, .invokevirtual 60, 3), (28, .invokestatic 64, 3), (31, .imul, 1), (32, .iadd, 1), (33, .istore_n 2, 1), (34, .iinc 3 1, 3), (37, .goto (-33), 3), (40, .aload_n 0, 1), (41, .getfield 18, 3), (44, .iload_n 1, 1), (45, .bipush 99, 2), (47, .iload_n 2, 1), (48, .bipush 9, 2), (50, .imul, 1), (51, .invokestatic 70, 3), (54, .iastore, 1), (55, .return_, 1)]
theorem dt_X9_itchAnew : wg_dc cX9_itchAnew tb_X9_itchAnew := by unfold wg_dc; decide +kernel
def f_X9_itchAnew_4  : Nat → Nat → Int32 → Int32 → Int32 → wg_M → Option (Int32 × wg_M)
  | 0, _, _, _, _, _ => none
  | n + 1, x0, x1, x2, x3, σ => if (8 : Int32) ≤ x3 then (wg_bd (f_J9_min_7cf53 (99 : Int32) (x2 * (9 : Int32)) σ) (fun v1 s2 => wg_sa (wg_n Sc (wg_r Sc x0 2)) s2 (wg_r Sc x0 2) x1 v1 (fun s3 => some (0, s3)))) else (wg_bd (f_X9_rulesFor x0 x1 x3 (0 : Int32) σ) (fun v4 s5 => wg_bd (f_J6_bitCount_0f7a4 v4 s5) (fun v6 s7 => wg_bd (f_X9_rulesFor x0 x1 x3 (1 : Int32) s7) (fun v8 s9 => wg_bd (f_J6_bitCount_0f7a4 v8 s9) (fun v10 s11 => wg_let (x2 + (v6 * v10)) (fun v12 => wg_let (x3 + (1 : Int32)) (fun v13 => f_X9_itchAnew_4  n x0 x1 v12 v13 s11)))))))
def f_X9_itchAnew  (x0 : Nat) (x1 : Int32) (σ : wg_M) : Option (Int32 × wg_M) := f_X9_itchAnew_4  wg_N x0 x1 (0 : Int32) (0 : Int32) σ
set_option maxRecDepth 20000 in
theorem g_X9_itchAnew_4 (l : Launch) (E : wg_E)  (z : Int32 × wg_M) : ∀ (n : Nat) (x0 : Nat) (x1 : Int32) (x2 : Int32) (x3 : Int32) (σ : wg_M) (hx0 : wg_t Sc x0 = 11) (h : f_X9_itchAnew_4  n x0 x1 x2 x3 σ = some z), wg_G l E Sc "WornWigs$Wigs" cX9_itchAnew 4 none rm_X9_itchAnew none z.2 4 [some (.ref x0), some (.int x1), some (.int x2), some (.int x3)] [] σ := by
  intro n
  induction n with
  | zero => intro x0 x1 x2 x3 σ hx0 h; cases h
  | succ n ih =>
    intro x0 x1 x2 x3 σ hx0 h
    refine wr_iload_n (wg_da dt_X9_itchAnew 4 rfl) rfl ?_
    refine wr_bipush (8 : Int32) (wg_da dt_X9_itchAnew 5 rfl) (by decide) ?_
    refine wr_icmp_ge 40 (wg_da dt_X9_itchAnew 6 rfl) (by decide) h (fun h => ?_) (fun h => ?_)
    · refine wr_aload_n (wg_da dt_X9_itchAnew 25 rfl) rfl ?_
      refine wr_getR wf_X9_18 (wg_da dt_X9_itchAnew 26 rfl) hx0 ?_
      refine wr_iload_n (wg_da dt_X9_itchAnew 27 rfl) rfl ?_
      refine wr_bipush (99 : Int32) (wg_da dt_X9_itchAnew 28 rfl) (by decide) ?_
      refine wr_iload_n (wg_da dt_X9_itchAnew 29 rfl) rfl ?_
      refine wr_bipush (9 : Int32) (wg_da dt_X9_itchAnew 30 rfl) (by decide) ?_
      refine wr_imul (wg_da dt_X9_itchAnew 31 rfl) ?_
      refine wr_callSi [.int (99 : Int32), .int (x2 * (9 : Int32))] [.int x1, .ref (wg_r Sc x0 2)] (wg_da dt_X9_itchAnew 32 rfl) ⟨wq_3_97, wq_3_98⟩ wy_J9_min_7cf53 (fun q hq => m_J9_min_7cf53 l E (99 : Int32) (x2 * (9 : Int32))  _ q hq) rfl rfl (Nat.le_of_ble_eq_true rfl) ⟨rfl, rfl, by decide, by decide⟩ h (fun v1 s2 h => ?_)
      refine wr_iast (wg_da dt_X9_itchAnew 33 rfl) (wg_ty Sc_ok 9 2 0 hx0 rfl (by decide)).2 h (fun s3 h => ?_)
      exact wr_vret (wg_da dt_X9_itchAnew 34 rfl) h
    · refine wr_iload_n (wg_da dt_X9_itchAnew 7 rfl) rfl ?_
      refine wr_aload_n (wg_da dt_X9_itchAnew 8 rfl) rfl ?_
      refine wr_iload_n (wg_da dt_X9_itchAnew 9 rfl) rfl ?_
      refine wr_iload_n (wg_da dt_X9_itchAnew 10 rfl) rfl ?_
      refine wr_iconst (0 : Int32) (wg_da dt_X9_itchAnew 11 rfl) (by decide) ?_
      refine wr_callVi [.int x1, .int x3, .int (0 : Int32)] [.int x2] (wg_da dt_X9_itchAnew 12 rfl) ⟨wq_3_87, wq_3_89, wq_p1_1⟩ hx0 ⟨rfl, by decide⟩ wy_X9_rulesFor (fun q hq => m_X9_rulesFor l E x0 x1 x3 (0 : Int32) hx0 _ q hq) rfl rfl (Nat.le_of_ble_eq_true rfl) ⟨rfl, rfl, by decide, by decide⟩ h (fun v4 s5 h => ?_)
      refine wr_callSi [.int v4] [.int x2] (wg_da dt_X9_itchAnew 13 rfl) ⟨wq_3_91, wq_3_92⟩ wy_J6_bitCount_0f7a4 (fun q hq => m_J6_bitCount_0f7a4 l E v4  _ q hq) rfl rfl (Nat.le_of_ble_eq_true rfl) ⟨rfl, rfl, by decide, by decide⟩ h (fun v6 s7 h => ?_)
      refine wr_aload_n (wg_da dt_X9_itchAnew 14 rfl) rfl ?_
      refine wr_iload_n (wg_da dt_X9_itchAnew 15 rfl) rfl ?_
      refine wr_iload_n (wg_da dt_X9_itchAnew 16 rfl) rfl ?_
      refine wr_iconst (1 : Int32) (wg_da dt_X9_itchAnew 17 rfl) (by decide) ?_
      refine wr_callVi [.int x1, .int x3, .int (1 : Int32)] [.int v6, .int x2] (wg_da dt_X9_itchAnew 18 rfl) ⟨wq_3_87, wq_3_89, wq_p1_1⟩ hx0 ⟨rfl, by decide⟩ wy_X9_rulesFor (fun q hq => m_X9_rulesFor l E x0 x1 x3 (1 : Int32) hx0 _ q hq) rfl rfl (Nat.le_of_ble_eq_true rfl) ⟨rfl, rfl, by decide, by decide⟩ h (fun v8 s9 h => ?_)
      refine wr_callSi [.int v8] [.int v6, .int x2] (wg_da dt_X9_itchAnew 19 rfl) ⟨wq_3_91, wq_3_92⟩ wy_J6_bitCount_0f7a4 (fun q hq => m_J6_bitCount_0f7a4 l E v8  _ q hq) rfl rfl (Nat.le_of_ble_eq_true rfl) ⟨rfl, rfl, by decide, by decide⟩ h (fun v10 s11 h => ?_)
      refine wr_imul (wg_da dt_X9_itchAnew 20 rfl) ?_
      refine wr_iadd (wg_da dt_X9_itchAnew 21 rfl) ?_
      refine wr_let h (fun v12 h => ?_)
      refine wr_istore_n (wg_da dt_X9_itchAnew 22 rfl) (by decide) ?_
      refine wr_iinc (c0 := (1 : Int32)) (wg_da dt_X9_itchAnew 23 rfl) rfl (by decide) (by decide) h (fun v13 h => ?_)
      refine wr_goto 4 (wg_da dt_X9_itchAnew 24 rfl) (by decide) ?_
      exact wr_wk [true, true, true, true] (ih x0 x1 v12 v13 s11 hx0 h)
set_option maxRecDepth 20000 in
theorem g_X9_itchAnew_e (l : Launch) (E : wg_E)  (x0 : Nat) (x1 : Int32) (σ : wg_M) (z : Int32 × wg_M) (hx0 : wg_t Sc x0 = 11) (h : f_X9_itchAnew  x0 x1 σ = some z) : wg_G l E Sc "WornWigs$Wigs" cX9_itchAnew 4 none rm_X9_itchAnew none z.2 0 [some (.ref x0), some (.int x1), none, none] [] σ := by
  refine wr_iconst (0 : Int32) (wg_da dt_X9_itchAnew 0 rfl) (by decide) ?_
  refine wr_istore_n (wg_da dt_X9_itchAnew 1 rfl) (by decide) ?_
  refine wr_iconst (0 : Int32) (wg_da dt_X9_itchAnew 2 rfl) (by decide) ?_
  refine wr_istore_n (wg_da dt_X9_itchAnew 3 rfl) (by decide) ?_
  exact wr_wk [true, true, true, true] (g_X9_itchAnew_4 l E  _  wg_N x0 x1 (0 : Int32) (0 : Int32) σ hx0 h)
theorem m_X9_itchAnew (l : Launch) (E : wg_E) (x0 : Nat) (x1 : Int32) (hx0 : wg_t Sc x0 = 11) (σ : wg_M) (q : Int32 × wg_M) (h : f_X9_itchAnew x0 x1 σ = some q) : wg_MG l E Sc yX9_itchAnew cX9_itchAnew 4 none rm_X9_itchAnew [.ref x0, .int x1] σ none q.2 :=
  wg_met [.ref x0, .int x1] (plainFor_of_name (by decide)) (Nat.le_of_ble_eq_true rfl) (g_X9_itchAnew_e l E x0 x1 σ q hx0 h)
abbrev rm_X9_dropRule : Room := { frames := 2, cells := 0, slots := 0, locals := 49 }
def tb_X9_dropRule : List (Nat × Instr × Nat) := [(0, .iload_n 1, 1), (1, .bipush 8, 2), (3, .imul, 1), (4, .aload_n 0, 1), (5, .getfield 24, 3), (8, .iload_n 1, 1), (9, .iaload, 1), (10, .iadd, 1), (11, .iconst 1, 1), (12, .isub, 1), (13, .istore_n 3, 1), (14, .iload_n 1, 1), (15, .bipush 8, 2), (17, .imul, 1), (18, .iload_n 2, 1), (19, .iadd, 1), (20, .istore 4, 2), (22, .iload 4, 2), (24, .iload_n 3, 1), (25, .if_icmp .ge 19, 3), (28, .aload_n 0, 1), (29, .iload 4, 2), (31, .iconst 1, 1), (32, .iadd, 1), (33, .iload 4, 2), (35, .invokevirtual 52, 3), (38, .iinc 4 1, 3), (41, .goto (-19), 3), (44, .aload_n 0, 1), (45, .getfield 24, 3), (48, .iload_n 1, 1), (49, .dup2, 1), (50, .iaload, 1), (51, .iconst 1, 1), (52, .isub, 1), (53, .iastore, 1), (54, .aload_n 0, 1), (55, .iload_n 1, 1), (56, .invokevirtual 48, 3), (59, .return_, 1)]
theorem dt_X9_dropRule : wg_dc cX9_dropRule tb_X9_dropRule := by unfold wg_dc; decide +kernel
def f_X9_dropRule_22  : Nat → Nat → Int32 → Int32 → Int32 → wg_M → Option (Int32 × wg_M)
  | 0, _, _, _, _, _ => none
  | n + 1, x0, x1, x3, x4, σ => if x3 ≤ x4 then (wg_ga (wg_n Sc (wg_r Sc x0 4)) (σ (wg_r Sc x0 4)) x1 (fun v1 => wg_sa (wg_n Sc (wg_r Sc x0 4)) σ (wg_r Sc x0 4) x1 (v1 - (1 : Int32)) (fun s2 => wg_bd (f_X9_itchAnew x0 x1 s2) (fun _ s3 => some (0, s3))))) else (wg_bd (f_X9_moveRule x0 (x4 + (1 : Int32)) x4 σ) (fun _ s4 => wg_let (x4 + (1 : Int32)) (fun v5 => f_X9_dropRule_22  n x0 x1 x3 v5 s4)))
def f_X9_dropRule  (x0 : Nat) (x1 : Int32) (x2 : Int32) (σ : wg_M) : Option (Int32 × wg_M) := wg_ga (wg_n Sc (wg_r Sc x0 4)) (σ (wg_r Sc x0 4)) x1 (fun v1 => wg_let (((x1 * (8 : Int32)) + v1) - (1 : Int32)) (fun v2 => wg_let ((x1 * (8 : Int32)) + x2) (fun v3 => f_X9_dropRule_22  wg_N x0 x1 v2 v3 σ)))
set_option maxRecDepth 20000 in
theorem g_X9_dropRule_22 (l : Launch) (E : wg_E)  (z : Int32 × wg_M) : ∀ (n : Nat) (x0 : Nat) (x1 : Int32) (x3 : Int32) (x4 : Int32) (σ : wg_M) (hx0 : wg_t Sc x0 = 11) (h : f_X9_dropRule_22  n x0 x1 x3 x4 σ = some z), wg_G l E Sc "WornWigs$Wigs" cX9_dropRule 5 none rm_X9_dropRule none z.2 22 [some (.ref x0), some (.int x1), none, some (.int x3), some (.int x4)] [] σ := by
  intro n
  induction n with
  | zero => intro x0 x1 x3 x4 σ hx0 h; cases h
  | succ n ih =>
    intro x0 x1 x3 x4 σ hx0 h
    refine wr_iload (wg_da dt_X9_dropRule 17 rfl) rfl ?_
    refine wr_iload_n (wg_da dt_X9_dropRule 18 rfl) rfl ?_
    refine wr_icmp_ge 44 (wg_da dt_X9_dropRule 19 rfl) (by decide) h (fun h => ?_) (fun h => ?_)
    · refine wr_aload_n (wg_da dt_X9_dropRule 28 rfl) rfl ?_
      refine wr_getR wf_X9_24 (wg_da dt_X9_dropRule 29 rfl) hx0 ?_
      refine wr_iload_n (wg_da dt_X9_dropRule 30 rfl) rfl ?_
      refine wr_dup2 (wg_da dt_X9_dropRule 31 rfl) ?_
      refine wr_iald (wg_da dt_X9_dropRule 32 rfl) (wg_ty Sc_ok 9 4 0 hx0 rfl (by decide)).2 h (fun v1 h => ?_)
      refine wr_iconst (1 : Int32) (wg_da dt_X9_dropRule 33 rfl) (by decide) ?_
      refine wr_isub (wg_da dt_X9_dropRule 34 rfl) ?_
      refine wr_iast (wg_da dt_X9_dropRule 35 rfl) (wg_ty Sc_ok 9 4 0 hx0 rfl (by decide)).2 h (fun s2 h => ?_)
      refine wr_aload_n (wg_da dt_X9_dropRule 36 rfl) rfl ?_
      refine wr_iload_n (wg_da dt_X9_dropRule 37 rfl) rfl ?_
      refine wr_callVv [.int x1] [] (wg_da dt_X9_dropRule 38 rfl) ⟨wq_3_83, wq_3_85, wq_p1_0⟩ hx0 ⟨rfl, by decide⟩ wy_X9_itchAnew (fun q hq => m_X9_itchAnew l E x0 x1 hx0 _ q hq) rfl rfl (Nat.le_of_ble_eq_true rfl) ⟨rfl, rfl, by decide, by decide⟩ h (fun _ s3 h => ?_)
      exact wr_vret (wg_da dt_X9_dropRule 39 rfl) h
    · refine wr_aload_n (wg_da dt_X9_dropRule 20 rfl) rfl ?_
      refine wr_iload (wg_da dt_X9_dropRule 21 rfl) rfl ?_
      refine wr_iconst (1 : Int32) (wg_da dt_X9_dropRule 22 rfl) (by decide) ?_
      refine wr_iadd (wg_da dt_X9_dropRule 23 rfl) ?_
      refine wr_iload (wg_da dt_X9_dropRule 24 rfl) rfl ?_
      refine wr_callVv [.int (x4 + (1 : Int32)), .int x4] [] (wg_da dt_X9_dropRule 25 rfl) ⟨wq_3_210, wq_3_212, wq_p1_7⟩ hx0 ⟨rfl, by decide⟩ wy_X9_moveRule (fun q hq => m_X9_moveRule l E x0 (x4 + (1 : Int32)) x4 hx0 _ q hq) rfl rfl (Nat.le_of_ble_eq_true rfl) ⟨rfl, rfl, by decide, by decide⟩ h (fun _ s4 h => ?_)
      refine wr_iinc (c0 := (1 : Int32)) (wg_da dt_X9_dropRule 26 rfl) rfl (by decide) (by decide) h (fun v5 h => ?_)
      refine wr_goto 22 (wg_da dt_X9_dropRule 27 rfl) (by decide) ?_
      exact wr_wk [true, true, false, true, true] (ih x0 x1 x3 v5 s4 hx0 h)
set_option maxRecDepth 20000 in
theorem g_X9_dropRule_e (l : Launch) (E : wg_E)  (x0 : Nat) (x1 : Int32) (x2 : Int32) (σ : wg_M) (z : Int32 × wg_M) (hx0 : wg_t Sc x0 = 11) (h : f_X9_dropRule  x0 x1 x2 σ = some z) : wg_G l E Sc "WornWigs$Wigs" cX9_dropRule 5 none rm_X9_dropRule none z.2 0 [some (.ref x0), some (.int x1), some (.int x2), none, none] [] σ := by
  refine wr_iload_n (wg_da dt_X9_dropRule 0 rfl) rfl ?_
  refine wr_bipush (8 : Int32) (wg_da dt_X9_dropRule 1 rfl) (by decide) ?_
  refine wr_imul (wg_da dt_X9_dropRule 2 rfl) ?_
  refine wr_aload_n (wg_da dt_X9_dropRule 3 rfl) rfl ?_
  refine wr_getR wf_X9_24 (wg_da dt_X9_dropRule 4 rfl) hx0 ?_
  refine wr_iload_n (wg_da dt_X9_dropRule 5 rfl) rfl ?_
  refine wr_iald (wg_da dt_X9_dropRule 6 rfl) (wg_ty Sc_ok 9 4 0 hx0 rfl (by decide)).2 h (fun v1 h => ?_)
  refine wr_iadd (wg_da dt_X9_dropRule 7 rfl) ?_
  refine wr_iconst (1 : Int32) (wg_da dt_X9_dropRule 8 rfl) (by decide) ?_
  refine wr_isub (wg_da dt_X9_dropRule 9 rfl) ?_
  refine wr_let h (fun v2 h => ?_)
  refine wr_istore_n (wg_da dt_X9_dropRule 10 rfl) (by decide) ?_
  refine wr_iload_n (wg_da dt_X9_dropRule 11 rfl) rfl ?_
  refine wr_bipush (8 : Int32) (wg_da dt_X9_dropRule 12 rfl) (by decide) ?_
  refine wr_imul (wg_da dt_X9_dropRule 13 rfl) ?_
  refine wr_iload_n (wg_da dt_X9_dropRule 14 rfl) rfl ?_
  refine wr_iadd (wg_da dt_X9_dropRule 15 rfl) ?_
  refine wr_let h (fun v3 h => ?_)
  refine wr_istore (wg_da dt_X9_dropRule 16 rfl) (by decide) ?_
  exact wr_wk [true, true, false, true, true] (g_X9_dropRule_22 l E  _  wg_N x0 x1 v2 v3 σ hx0 h)
theorem m_X9_dropRule (l : Launch) (E : wg_E) (x0 : Nat) (x1 : Int32) (x2 : Int32) (hx0 : wg_t Sc x0 = 11) (σ : wg_M) (q : Int32 × wg_M) (h : f_X9_dropRule x0 x1 x2 σ = some q) : wg_MG l E Sc yX9_dropRule cX9_dropRule 5 none rm_X9_dropRule [.ref x0, .int x1, .int x2] σ none q.2 :=
  wg_met [.ref x0, .int x1, .int x2] (plainFor_of_name (by decide)) (Nat.le_of_ble_eq_true rfl) (g_X9_dropRule_e l E x0 x1 x2 σ q hx0 h)
abbrev rm_X9_addRule : Room := { frames := 2, cells := 0, slots := 0, locals := 49 }
def tb_X9_addRule : List (Nat × Instr × Nat) := [(0, .aload_n 0, 1), (1, .getfield 24, 3), (4, .iload_n 1, 1), (5, .iaload, 1), (6, .bipush 8, 2), (8, .if_icmp .lt 4, 3), (11, .return_, 1), (12, .iload_n 1, 1), (13, .bipush 8, 2), (15, .imul, 1), (16, .aload_n 0, 1), (17, .getfield 24, 3), (20, .iload_n 1, 1), (21, .iaload, 1), (22, .iadd, 1), (23, .istore 5, 2), (25, .aload_n 0, 1), (26, .getfield 27, 3), (29, .iload 5, 2), (31, .iload_n 2, 1), (32, .iastore, 1), (33, .aload_n 0, 1), (34, .getfield 30, 3), (37, .iload 5, 2), (39, .iload_n 3, 1), (40, .iastore, 1), (41, .aload_n 0, 1), (42, .getfield 33, 3), (45, .iload 5, 2), (47, .iload 4, 2), (49, .iastore, 1), (50, .aload_n 0, 1), (51, .getfield 24, 3), (54, .iload_n 1, 1), (55, .dup2, 1), (56, .iaload, 1), (57, .iconst 1, 1), (58, .iadd, 1), (59, .iastore, 1), (60, .aload_n 0, 1), (61, .iload_n 1, 1), (62, .invokevirtual 48, 3), (65, .return_, 1)]
theorem dt_X9_addRule : wg_dc cX9_addRule tb_X9_addRule := by unfold wg_dc; decide +kernel
def f_X9_addRule  (x0 : Nat) (x1 : Int32) (x2 : Int32) (x3 : Int32) (x4 : Int32) (σ : wg_M) : Option (Int32 × wg_M) := wg_ga (wg_n Sc (wg_r Sc x0 4)) (σ (wg_r Sc x0 4)) x1 (fun v1 => if v1 < (8 : Int32) then (wg_ga (wg_n Sc (wg_r Sc x0 4)) (σ (wg_r Sc x0 4)) x1 (fun v2 => wg_let ((x1 * (8 : Int32)) + v2) (fun v3 => wg_sa (wg_n Sc (wg_r Sc x0 5)) σ (wg_r Sc x0 5) v3 x2 (fun s4 => wg_sa (wg_n Sc (wg_r Sc x0 6)) s4 (wg_r Sc x0 6) v3 x3 (fun s5 => wg_sa (wg_n Sc (wg_r Sc x0 7)) s5 (wg_r Sc x0 7) v3 x4 (fun s6 => wg_ga (wg_n Sc (wg_r Sc x0 4)) (s6 (wg_r Sc x0 4)) x1 (fun v7 => wg_sa (wg_n Sc (wg_r Sc x0 4)) s6 (wg_r Sc x0 4) x1 (v7 + (1 : Int32)) (fun s8 => wg_bd (f_X9_itchAnew x0 x1 s8) (fun _ s9 => some (0, s9)))))))))) else (some (0, σ)))
set_option maxRecDepth 20000 in
theorem g_X9_addRule_e (l : Launch) (E : wg_E)  (x0 : Nat) (x1 : Int32) (x2 : Int32) (x3 : Int32) (x4 : Int32) (σ : wg_M) (z : Int32 × wg_M) (hx0 : wg_t Sc x0 = 11) (h : f_X9_addRule  x0 x1 x2 x3 x4 σ = some z) : wg_G l E Sc "WornWigs$Wigs" cX9_addRule 6 none rm_X9_addRule none z.2 0 [some (.ref x0), some (.int x1), some (.int x2), some (.int x3), some (.int x4), none] [] σ := by
  refine wr_aload_n (wg_da dt_X9_addRule 0 rfl) rfl ?_
  refine wr_getR wf_X9_24 (wg_da dt_X9_addRule 1 rfl) hx0 ?_
  refine wr_iload_n (wg_da dt_X9_addRule 2 rfl) rfl ?_
  refine wr_iald (wg_da dt_X9_addRule 3 rfl) (wg_ty Sc_ok 9 4 0 hx0 rfl (by decide)).2 h (fun v1 h => ?_)
  refine wr_bipush (8 : Int32) (wg_da dt_X9_addRule 4 rfl) (by decide) ?_
  refine wr_icmp_lt 12 (wg_da dt_X9_addRule 5 rfl) (by decide) h (fun h => ?_) (fun h => ?_)
  · refine wr_iload_n (wg_da dt_X9_addRule 7 rfl) rfl ?_
    refine wr_bipush (8 : Int32) (wg_da dt_X9_addRule 8 rfl) (by decide) ?_
    refine wr_imul (wg_da dt_X9_addRule 9 rfl) ?_
    refine wr_aload_n (wg_da dt_X9_addRule 10 rfl) rfl ?_
    refine wr_getR wf_X9_24 (wg_da dt_X9_addRule 11 rfl) hx0 ?_
    refine wr_iload_n (wg_da dt_X9_addRule 12 rfl) rfl ?_
    refine wr_iald (wg_da dt_X9_addRule 13 rfl) (wg_ty Sc_ok 9 4 0 hx0 rfl (by decide)).2 h (fun v2 h => ?_)
    refine wr_iadd (wg_da dt_X9_addRule 14 rfl) ?_
    refine wr_let h (fun v3 h => ?_)
    refine wr_istore (wg_da dt_X9_addRule 15 rfl) (by decide) ?_
    refine wr_aload_n (wg_da dt_X9_addRule 16 rfl) rfl ?_
    refine wr_getR wf_X9_27 (wg_da dt_X9_addRule 17 rfl) hx0 ?_
    refine wr_iload (wg_da dt_X9_addRule 18 rfl) rfl ?_
    refine wr_iload_n (wg_da dt_X9_addRule 19 rfl) rfl ?_
    refine wr_iast (wg_da dt_X9_addRule 20 rfl) (wg_ty Sc_ok 9 5 0 hx0 rfl (by decide)).2 h (fun s4 h => ?_)
    refine wr_aload_n (wg_da dt_X9_addRule 21 rfl) rfl ?_
    refine wr_getR wf_X9_30 (wg_da dt_X9_addRule 22 rfl) hx0 ?_
    refine wr_iload (wg_da dt_X9_addRule 23 rfl) rfl ?_
    refine wr_iload_n (wg_da dt_X9_addRule 24 rfl) rfl ?_
    refine wr_iast (wg_da dt_X9_addRule 25 rfl) (wg_ty Sc_ok 9 6 0 hx0 rfl (by decide)).2 h (fun s5 h => ?_)
    refine wr_aload_n (wg_da dt_X9_addRule 26 rfl) rfl ?_
    refine wr_getR wf_X9_33 (wg_da dt_X9_addRule 27 rfl) hx0 ?_
    refine wr_iload (wg_da dt_X9_addRule 28 rfl) rfl ?_
    refine wr_iload (wg_da dt_X9_addRule 29 rfl) rfl ?_
    refine wr_iast (wg_da dt_X9_addRule 30 rfl) (wg_ty Sc_ok 9 7 0 hx0 rfl (by decide)).2 h (fun s6 h => ?_)
    refine wr_aload_n (wg_da dt_X9_addRule 31 rfl) rfl ?_
    refine wr_getR wf_X9_24 (wg_da dt_X9_addRule 32 rfl) hx0 ?_
    refine wr_iload_n (wg_da dt_X9_addRule 33 rfl) rfl ?_
    refine wr_dup2 (wg_da dt_X9_addRule 34 rfl) ?_
    refine wr_iald (wg_da dt_X9_addRule 35 rfl) (wg_ty Sc_ok 9 4 0 hx0 rfl (by decide)).2 h (fun v7 h => ?_)
    refine wr_iconst (1 : Int32) (wg_da dt_X9_addRule 36 rfl) (by decide) ?_
    refine wr_iadd (wg_da dt_X9_addRule 37 rfl) ?_
    refine wr_iast (wg_da dt_X9_addRule 38 rfl) (wg_ty Sc_ok 9 4 0 hx0 rfl (by decide)).2 h (fun s8 h => ?_)
    refine wr_aload_n (wg_da dt_X9_addRule 39 rfl) rfl ?_
    refine wr_iload_n (wg_da dt_X9_addRule 40 rfl) rfl ?_
    refine wr_callVv [.int x1] [] (wg_da dt_X9_addRule 41 rfl) ⟨wq_3_83, wq_3_85, wq_p1_0⟩ hx0 ⟨rfl, by decide⟩ wy_X9_itchAnew (fun q hq => m_X9_itchAnew l E x0 x1 hx0 _ q hq) rfl rfl (Nat.le_of_ble_eq_true rfl) ⟨rfl, rfl, by decide, by decide⟩ h (fun _ s9 h => ?_)
    exact wr_vret (wg_da dt_X9_addRule 42 rfl) h
  · exact wr_vret (wg_da dt_X9_addRule 6 rfl) h
theorem m_X9_addRule (l : Launch) (E : wg_E) (x0 : Nat) (x1 : Int32) (x2 : Int32) (x3 : Int32) (x4 : Int32) (hx0 : wg_t Sc x0 = 11) (σ : wg_M) (q : Int32 × wg_M) (h : f_X9_addRule x0 x1 x2 x3 x4 σ = some q) : wg_MG l E Sc yX9_addRule cX9_addRule 6 none rm_X9_addRule [.ref x0, .int x1, .int x2, .int x3, .int x4] σ none q.2 :=
  wg_met [.ref x0, .int x1, .int x2, .int x3, .int x4] (plainFor_of_name (by decide)) (Nat.le_of_ble_eq_true rfl) (g_X9_addRule_e l E x0 x1 x2 x3 x4 σ q hx0 h)
abbrev rm_X1_tryCase : Room := { frames := 5, cells := 0, slots := 0, locals := 123 }
def tb_X1_tryCase : List (Nat × Instr × Nat) := [(0, .aload_n 0, 1), (1, .iload_n 1, 1), (2, .iload_n 2, 1), (3, .invokevirtual 169, 3), (6, .istore_n 3, 1), (7, .aload_n 0, 1), (8, .getfield 27, 3), (11, .getfield 163, 3), (14, .iload_n 1, 1), (15, .iload_n 3, 1), (16, .iastore, 1), (17, .aload_n 0, 1), (18, .getfield 27, 3), (21, .getfield 172, 3), (24, .iload_n 1, 1), (25, .iload_n 2, 1), (26, .iastore, 1), (27, .aload_n 0, 1), (28, .getfield 37, 3), (31, .getfield 91, 3), (34, .iload_n 2, 1), (35, .dup2, 1), (36, .iaload, 1), (37, .iconst 1, 1), (38, .iadd, 1), (39, .iastore, 1), (40, .aload_n 0, 1), (41, .getfield 37, 3), (44, .getfield 132, 3), (47, .iload_n 2, 1), (48, .iaload, 1), (49, .istore 4, 2), (51, .aload_n 0, 1), (52, .getfield 32, 3), (55, .iload 4, 2), (57, .invokevirtual 135, 3), (60, .ifCond .eq 69, 3), (63, .aload_n 0, 1), (64, .getfield 32, 3), (67, .getfield 147, 3), (70, .iload 4, 2), (72, .iaload, 1), (73, .bipush 8, 2), (75, .if_icmp .lt 21, 3), (78, .aload_n 0, 1), (79, .getfield 32, 3), (82, .iload 4, 2), (84, .aload_n 0, 1), (85, .getfield 32, 3), (88, .iload 4, 2), (90, .invokevirtual 175, 3), (93, .invokevirtual 179, 3), (96, .aload_n 0, 1), (97, .getfield 32, 3), (100, .iload 4, 2), (102, .aload_n 0, 1), (103, .getfield 27, 3), (106, .getfield 150, 3), (109, .iload_n 1, 1), (110, .iaload, 1), (111, .iload_n 3, 1), (112, .bipush 20, 2), (114, .invokestatic 157, 3), (117, .bipush (-9), 2), (119, .bipush 9, 2), (121, .invokestatic 128, 3), (124, .bipush 9, 2), (126, .invokevirtual 183, 3), (129, .aload_n 0, 1), (130, .iconst 0, 1), (131, .iload_n 1, 1), (132, .iload_n 3, 1), (133, .invokevirtual 186, 3), (136, .return_, 1)]
theorem dt_X1_tryCase : wg_dc cX1_tryCase tb_X1_tryCase := by unfold wg_dc; decide +kernel
def f_X1_tryCase_129  (x0 : Nat) (x1 : Int32) (x3 : Int32) (σ : wg_M) : Option (Int32 × wg_M) := wg_bd (f_X1_note x0 (0 : Int32) x1 x3 σ) (fun _ s1 => some (0, s1))
def f_X1_tryCase_96  (x0 : Nat) (x1 : Int32) (x3 : Int32) (x4 : Int32) (σ : wg_M) : Option (Int32 × wg_M) := wg_ga (wg_n Sc (wg_r Sc (wg_r Sc x0 1) 2)) (σ (wg_r Sc (wg_r Sc x0 1) 2)) x1 (fun v1 => wg_bd (f_J9_floorDiv_7cf53 x3 (20 : Int32) σ) (fun v2 s3 => wg_bd (f_X11_held v2 (-9 : Int32) (9 : Int32) s3) (fun v4 s5 => wg_bd (f_X9_addRule (wg_r Sc x0 2) x4 v1 v4 (9 : Int32) s5) (fun _ s6 => f_X1_tryCase_129  x0 x1 x3 s6))))
def f_X1_tryCase  (x0 : Nat) (x1 : Int32) (x2 : Int32) (σ : wg_M) : Option (Int32 × wg_M) := wg_bd (f_X1_verdictOf x0 x1 x2 σ) (fun v1 s2 => wg_sa (wg_n Sc (wg_r Sc (wg_r Sc x0 1) 4)) s2 (wg_r Sc (wg_r Sc x0 1) 4) x1 v1 (fun s3 => wg_sa (wg_n Sc (wg_r Sc (wg_r Sc x0 1) 5)) s3 (wg_r Sc (wg_r Sc x0 1) 5) x1 x2 (fun s4 => wg_ga (wg_n Sc (wg_r Sc (wg_r Sc x0 3) 4)) (s4 (wg_r Sc (wg_r Sc x0 3) 4)) x2 (fun v5 => wg_sa (wg_n Sc (wg_r Sc (wg_r Sc x0 3) 4)) s4 (wg_r Sc (wg_r Sc x0 3) 4) x2 (v5 + (1 : Int32)) (fun s6 => wg_ga (wg_n Sc (wg_r Sc (wg_r Sc x0 3) 2)) (s6 (wg_r Sc (wg_r Sc x0 3) 2)) x2 (fun v7 => wg_bd (f_X9_has (wg_r Sc x0 2) v7 s6) (fun v8 s9 => if v8 = 0 then (f_X1_tryCase_129  x0 x1 v1 s9) else (wg_ga (wg_n Sc (wg_r Sc (wg_r Sc x0 2) 4)) (s9 (wg_r Sc (wg_r Sc x0 2) 4)) v7 (fun v10 => if v10 < (8 : Int32) then (f_X1_tryCase_96  x0 x1 v1 v7 s9) else (wg_bd (f_X9_lightestRule (wg_r Sc x0 2) v7 s9) (fun v11 s12 => wg_bd (f_X9_dropRule (wg_r Sc x0 2) v7 v11 s12) (fun _ s13 => f_X1_tryCase_96  x0 x1 v1 v7 s13))))))))))))
set_option maxRecDepth 20000 in
theorem g_X1_tryCase_129 (l : Launch) (E : wg_E)  (x0 : Nat) (x1 : Int32) (x3 : Int32) (σ : wg_M) (z : Int32 × wg_M) (hx0 : wg_t Sc x0 = 3) (h : f_X1_tryCase_129  x0 x1 x3 σ = some z) : wg_G l E Sc "WornWigs$Court" cX1_tryCase 5 none rm_X1_tryCase none z.2 129 [some (.ref x0), some (.int x1), none, some (.int x3), none] [] σ := by
  refine wr_aload_n (wg_da dt_X1_tryCase 68 rfl) rfl ?_
  refine wr_iconst (0 : Int32) (wg_da dt_X1_tryCase 69 rfl) (by decide) ?_
  refine wr_iload_n (wg_da dt_X1_tryCase 70 rfl) rfl ?_
  refine wr_iload_n (wg_da dt_X1_tryCase 71 rfl) rfl ?_
  refine wr_callVv [.int (0 : Int32), .int x1, .int x3] [] (wg_da dt_X1_tryCase 72 rfl) ⟨wq_3_215, wq_3_217, wq_p1_8⟩ hx0 ⟨rfl, by decide⟩ wy_X1_note (fun q hq => m_X1_note l E x0 (0 : Int32) x1 x3 hx0 _ q hq) rfl rfl (Nat.le_of_ble_eq_true rfl) ⟨rfl, rfl, by decide, by decide⟩ h (fun _ s1 h => ?_)
  exact wr_vret (wg_da dt_X1_tryCase 73 rfl) h
set_option maxRecDepth 20000 in
theorem g_X1_tryCase_96 (l : Launch) (E : wg_E)  (x0 : Nat) (x1 : Int32) (x3 : Int32) (x4 : Int32) (σ : wg_M) (z : Int32 × wg_M) (hx0 : wg_t Sc x0 = 3) (h : f_X1_tryCase_96  x0 x1 x3 x4 σ = some z) : wg_G l E Sc "WornWigs$Court" cX1_tryCase 5 none rm_X1_tryCase none z.2 96 [some (.ref x0), some (.int x1), none, some (.int x3), some (.int x4)] [] σ := by
  refine wr_aload_n (wg_da dt_X1_tryCase 52 rfl) rfl ?_
  refine wr_getR wf_X1_32 (wg_da dt_X1_tryCase 53 rfl) hx0 ?_
  refine wr_iload (wg_da dt_X1_tryCase 54 rfl) rfl ?_
  refine wr_aload_n (wg_da dt_X1_tryCase 55 rfl) rfl ?_
  refine wr_getR wf_X1_27 (wg_da dt_X1_tryCase 56 rfl) hx0 ?_
  refine wr_getR wf_X1_150 (wg_da dt_X1_tryCase 57 rfl) (wg_ty Sc_ok 1 1 2 hx0 rfl (by decide)).2 ?_
  refine wr_iload_n (wg_da dt_X1_tryCase 58 rfl) rfl ?_
  refine wr_iald (wg_da dt_X1_tryCase 59 rfl) (wg_ty Sc_ok 0 2 0 (wg_ty Sc_ok 1 1 2 hx0 rfl (by decide)).2 rfl (by decide)).2 h (fun v1 h => ?_)
  refine wr_iload_n (wg_da dt_X1_tryCase 60 rfl) rfl ?_
  refine wr_bipush (20 : Int32) (wg_da dt_X1_tryCase 61 rfl) (by decide) ?_
  refine wr_callSi [.int x3, .int (20 : Int32)] [.int v1, .int x4, .ref (wg_r Sc x0 2)] (wg_da dt_X1_tryCase 62 rfl) ⟨wq_3_199, wq_3_200⟩ wy_J9_floorDiv_7cf53 (fun q hq => m_J9_floorDiv_7cf53 l E x3 (20 : Int32)  _ q hq) rfl rfl (Nat.le_of_ble_eq_true rfl) ⟨rfl, rfl, by decide, by decide⟩ h (fun v2 s3 h => ?_)
  refine wr_bipush (-9 : Int32) (wg_da dt_X1_tryCase 63 rfl) (by decide) ?_
  refine wr_bipush (9 : Int32) (wg_da dt_X1_tryCase 64 rfl) (by decide) ?_
  refine wr_callNi [.int v2, .int (-9 : Int32), .int (9 : Int32)] [.int v1, .int x4, .ref (wg_r Sc x0 2)] (wg_da dt_X1_tryCase 65 rfl) ⟨List.mem_of_getElem? (i := 12) rfl, wq_3_196⟩ wy_X11_held (fun q hq => m_X11_held l E v2 (-9 : Int32) (9 : Int32)  _ q hq) rfl rfl (Nat.le_of_ble_eq_true rfl) ⟨rfl, rfl, by decide, by decide⟩ h (fun v4 s5 h => ?_)
  refine wr_bipush (9 : Int32) (wg_da dt_X1_tryCase 66 rfl) (by decide) ?_
  refine wr_callVv [.int x4, .int v1, .int v4, .int (9 : Int32)] [] (wg_da dt_X1_tryCase 67 rfl) ⟨wq_3_214, wq_3_80, wq_3_81⟩ (wg_ty Sc_ok 1 2 11 hx0 rfl (by decide)).2 ⟨rfl, by decide⟩ wy_X9_addRule (fun q hq => m_X9_addRule l E (wg_r Sc x0 2) x4 v1 v4 (9 : Int32) (wg_ty Sc_ok 1 2 11 hx0 rfl (by decide)).2 _ q hq) rfl rfl (Nat.le_of_ble_eq_true rfl) ⟨rfl, rfl, by decide, by decide⟩ h (fun _ s6 h => ?_)
  exact wr_wk [true, true, false, true, false] (g_X1_tryCase_129 l E  x0 x1 x3 s6 _ hx0  h)
set_option maxRecDepth 20000 in
theorem g_X1_tryCase_e (l : Launch) (E : wg_E)  (x0 : Nat) (x1 : Int32) (x2 : Int32) (σ : wg_M) (z : Int32 × wg_M) (hx0 : wg_t Sc x0 = 3) (h : f_X1_tryCase  x0 x1 x2 σ = some z) : wg_G l E Sc "WornWigs$Court" cX1_tryCase 5 none rm_X1_tryCase none z.2 0 [some (.ref x0), some (.int x1), some (.int x2), none, none] [] σ := by
  refine wr_aload_n (wg_da dt_X1_tryCase 0 rfl) rfl ?_
  refine wr_iload_n (wg_da dt_X1_tryCase 1 rfl) rfl ?_
  refine wr_iload_n (wg_da dt_X1_tryCase 2 rfl) rfl ?_
  refine wr_callVi [.int x1, .int x2] [] (wg_da dt_X1_tryCase 3 rfl) ⟨wq_3_160, wq_3_161, wq_3_162⟩ hx0 ⟨rfl, by decide⟩ wy_X1_verdictOf (fun q hq => m_X1_verdictOf l E x0 x1 x2 hx0 _ q hq) rfl rfl (Nat.le_of_ble_eq_true rfl) ⟨rfl, rfl, by decide, by decide⟩ h (fun v1 s2 h => ?_)
  refine wr_istore_n (wg_da dt_X1_tryCase 4 rfl) (by decide) ?_
  refine wr_aload_n (wg_da dt_X1_tryCase 5 rfl) rfl ?_
  refine wr_getR wf_X1_27 (wg_da dt_X1_tryCase 6 rfl) hx0 ?_
  refine wr_getR wf_X1_163 (wg_da dt_X1_tryCase 7 rfl) (wg_ty Sc_ok 1 1 2 hx0 rfl (by decide)).2 ?_
  refine wr_iload_n (wg_da dt_X1_tryCase 8 rfl) rfl ?_
  refine wr_iload_n (wg_da dt_X1_tryCase 9 rfl) rfl ?_
  refine wr_iast (wg_da dt_X1_tryCase 10 rfl) (wg_ty Sc_ok 0 4 0 (wg_ty Sc_ok 1 1 2 hx0 rfl (by decide)).2 rfl (by decide)).2 h (fun s3 h => ?_)
  refine wr_aload_n (wg_da dt_X1_tryCase 11 rfl) rfl ?_
  refine wr_getR wf_X1_27 (wg_da dt_X1_tryCase 12 rfl) hx0 ?_
  refine wr_getR wf_X1_172 (wg_da dt_X1_tryCase 13 rfl) (wg_ty Sc_ok 1 1 2 hx0 rfl (by decide)).2 ?_
  refine wr_iload_n (wg_da dt_X1_tryCase 14 rfl) rfl ?_
  refine wr_iload_n (wg_da dt_X1_tryCase 15 rfl) rfl ?_
  refine wr_iast (wg_da dt_X1_tryCase 16 rfl) (wg_ty Sc_ok 0 5 0 (wg_ty Sc_ok 1 1 2 hx0 rfl (by decide)).2 rfl (by decide)).2 h (fun s4 h => ?_)
  refine wr_aload_n (wg_da dt_X1_tryCase 17 rfl) rfl ?_
  refine wr_getR wf_X1_37 (wg_da dt_X1_tryCase 18 rfl) hx0 ?_
  refine wr_getR wf_X1_91 (wg_da dt_X1_tryCase 19 rfl) (wg_ty Sc_ok 1 3 4 hx0 rfl (by decide)).2 ?_
  refine wr_iload_n (wg_da dt_X1_tryCase 20 rfl) rfl ?_
  refine wr_dup2 (wg_da dt_X1_tryCase 21 rfl) ?_
  refine wr_iald (wg_da dt_X1_tryCase 22 rfl) (wg_ty Sc_ok 2 4 0 (wg_ty Sc_ok 1 3 4 hx0 rfl (by decide)).2 rfl (by decide)).2 h (fun v5 h => ?_)
  refine wr_iconst (1 : Int32) (wg_da dt_X1_tryCase 23 rfl) (by decide) ?_
  refine wr_iadd (wg_da dt_X1_tryCase 24 rfl) ?_
  refine wr_iast (wg_da dt_X1_tryCase 25 rfl) (wg_ty Sc_ok 2 4 0 (wg_ty Sc_ok 1 3 4 hx0 rfl (by decide)).2 rfl (by decide)).2 h (fun s6 h => ?_)
  refine wr_aload_n (wg_da dt_X1_tryCase 26 rfl) rfl ?_
  refine wr_getR wf_X1_37 (wg_da dt_X1_tryCase 27 rfl) hx0 ?_
  refine wr_getR wf_X1_132 (wg_da dt_X1_tryCase 28 rfl) (wg_ty Sc_ok 1 3 4 hx0 rfl (by decide)).2 ?_
  refine wr_iload_n (wg_da dt_X1_tryCase 29 rfl) rfl ?_
  refine wr_iald (wg_da dt_X1_tryCase 30 rfl) (wg_ty Sc_ok 2 2 0 (wg_ty Sc_ok 1 3 4 hx0 rfl (by decide)).2 rfl (by decide)).2 h (fun v7 h => ?_)
  refine wr_istore (wg_da dt_X1_tryCase 31 rfl) (by decide) ?_
  refine wr_aload_n (wg_da dt_X1_tryCase 32 rfl) rfl ?_
  refine wr_getR wf_X1_32 (wg_da dt_X1_tryCase 33 rfl) hx0 ?_
  refine wr_iload (wg_da dt_X1_tryCase 34 rfl) rfl ?_
  refine wr_callVi [.int v7] [] (wg_da dt_X1_tryCase 35 rfl) ⟨wq_3_164, wq_3_76, wq_3_77⟩ (wg_ty Sc_ok 1 2 11 hx0 rfl (by decide)).2 ⟨rfl, by decide⟩ wy_X9_has (fun q hq => m_X9_has l E (wg_r Sc x0 2) v7 (wg_ty Sc_ok 1 2 11 hx0 rfl (by decide)).2 _ q hq) rfl rfl (Nat.le_of_ble_eq_true rfl) ⟨rfl, rfl, by decide, by decide⟩ h (fun v8 s9 h => ?_)
  refine wr_if_eq 129 (wg_da dt_X1_tryCase 36 rfl) (by decide) h (fun h => ?_) (fun h => ?_)
  · exact wr_wk [true, true, false, true, false] (g_X1_tryCase_129 l E  x0 x1 v1 s9 _ hx0  h)
  · refine wr_aload_n (wg_da dt_X1_tryCase 37 rfl) rfl ?_
    refine wr_getR wf_X1_32 (wg_da dt_X1_tryCase 38 rfl) hx0 ?_
    refine wr_getR wf_X1_147 (wg_da dt_X1_tryCase 39 rfl) (wg_ty Sc_ok 1 2 11 hx0 rfl (by decide)).2 ?_
    refine wr_iload (wg_da dt_X1_tryCase 40 rfl) rfl ?_
    refine wr_iald (wg_da dt_X1_tryCase 41 rfl) (wg_ty Sc_ok 9 4 0 (wg_ty Sc_ok 1 2 11 hx0 rfl (by decide)).2 rfl (by decide)).2 h (fun v10 h => ?_)
    refine wr_bipush (8 : Int32) (wg_da dt_X1_tryCase 42 rfl) (by decide) ?_
    refine wr_icmp_lt 96 (wg_da dt_X1_tryCase 43 rfl) (by decide) h (fun h => ?_) (fun h => ?_)
    · exact wr_wk [true, true, false, true, true] (g_X1_tryCase_96 l E  x0 x1 v1 v7 s9 _ hx0  h)
    · refine wr_aload_n (wg_da dt_X1_tryCase 44 rfl) rfl ?_
      refine wr_getR wf_X1_32 (wg_da dt_X1_tryCase 45 rfl) hx0 ?_
      refine wr_iload (wg_da dt_X1_tryCase 46 rfl) rfl ?_
      refine wr_aload_n (wg_da dt_X1_tryCase 47 rfl) rfl ?_
      refine wr_getR wf_X1_32 (wg_da dt_X1_tryCase 48 rfl) hx0 ?_
      refine wr_iload (wg_da dt_X1_tryCase 49 rfl) rfl ?_
      refine wr_callVi [.int v7] [.int v7, .ref (wg_r Sc x0 2)] (wg_da dt_X1_tryCase 50 rfl) ⟨wq_3_202, wq_3_203, wq_3_204⟩ (wg_ty Sc_ok 1 2 11 hx0 rfl (by decide)).2 ⟨rfl, by decide⟩ wy_X9_lightestRule (fun q hq => m_X9_lightestRule l E (wg_r Sc x0 2) v7 (wg_ty Sc_ok 1 2 11 hx0 rfl (by decide)).2 _ q hq) rfl rfl (Nat.le_of_ble_eq_true rfl) ⟨rfl, rfl, by decide, by decide⟩ h (fun v11 s12 h => ?_)
      refine wr_callVv [.int v7, .int v11] [] (wg_da dt_X1_tryCase 51 rfl) ⟨wq_3_206, wq_3_207, wq_3_208⟩ (wg_ty Sc_ok 1 2 11 hx0 rfl (by decide)).2 ⟨rfl, by decide⟩ wy_X9_dropRule (fun q hq => m_X9_dropRule l E (wg_r Sc x0 2) v7 v11 (wg_ty Sc_ok 1 2 11 hx0 rfl (by decide)).2 _ q hq) rfl rfl (Nat.le_of_ble_eq_true rfl) ⟨rfl, rfl, by decide, by decide⟩ h (fun _ s13 h => ?_)
      exact wr_wk [true, true, false, true, true] (g_X1_tryCase_96 l E  x0 x1 v1 v7 s13 _ hx0  h)
theorem m_X1_tryCase (l : Launch) (E : wg_E) (x0 : Nat) (x1 : Int32) (x2 : Int32) (hx0 : wg_t Sc x0 = 3) (σ : wg_M) (q : Int32 × wg_M) (h : f_X1_tryCase x0 x1 x2 σ = some q) : wg_MG l E Sc yX1_tryCase cX1_tryCase 5 none rm_X1_tryCase [.ref x0, .int x1, .int x2] σ none q.2 :=
  wg_met [.ref x0, .int x1, .int x2] (plainFor_of_name (by decide)) (Nat.le_of_ble_eq_true rfl) (g_X1_tryCase_e l E x0 x1 x2 σ q hx0 h)
abbrev rm_X2_wearer : Room := { frames := 0, cells := 0, slots := 0, locals := 0 }
def tb_X2_wearer : List (Nat × Instr × Nat) := [(0, .iconst 0, 1), (1, .istore_n 2, 1), (2, .iload_n 2, 1), (3, .aload_n 0, 1), (4, .getfield 31, 3), (7, .if_icmp .ge 21, 3), (10, .aload_n 0, 1), (11, .getfield 18, 3), (14, .iload_n 2, 1), (15, .iaload, 1), (16, .iload_n 1, 1), (17, .if_icmp .ne 5, 3), (20, .iload_n 2, 1), (21, .ireturn, 1), (22, .iinc 2 1, 3), (25, .goto (-23), 3), (28, .iconst (-1), 1), (29, .ireturn, 1)]
theorem dt_X2_wearer : wg_dc cX2_wearer tb_X2_wearer := by unfold wg_dc; decide +kernel
def f_X2_wearer_2  : Nat → Nat → Int32 → Int32 → wg_M → Option (Int32 × wg_M)
  | 0, _, _, _, _ => none
  | n + 1, x0, x1, x2, σ => if (σ x0 5) ≤ x2 then (some ((-1 : Int32), σ)) else (wg_ga (wg_n Sc (wg_r Sc x0 2)) (σ (wg_r Sc x0 2)) x2 (fun v1 => if v1 = x1 then (some (x2, σ)) else (wg_let (x2 + (1 : Int32)) (fun v2 => f_X2_wearer_2  n x0 x1 v2 σ))))
def f_X2_wearer  (x0 : Nat) (x1 : Int32) (σ : wg_M) : Option (Int32 × wg_M) := f_X2_wearer_2  wg_N x0 x1 (0 : Int32) σ
set_option maxRecDepth 20000 in
theorem g_X2_wearer_2 (l : Launch) (E : wg_E)  (z : Int32 × wg_M) : ∀ (n : Nat) (x0 : Nat) (x1 : Int32) (x2 : Int32) (σ : wg_M) (hx0 : wg_t Sc x0 = 4) (h : f_X2_wearer_2  n x0 x1 x2 σ = some z), wg_G l E Sc "WornWigs$Judges" cX2_wearer 3 (some .int) rm_X2_wearer (some z.1) z.2 2 [some (.ref x0), some (.int x1), some (.int x2)] [] σ := by
  intro n
  induction n with
  | zero => intro x0 x1 x2 σ hx0 h; cases h
  | succ n ih =>
    intro x0 x1 x2 σ hx0 h
    refine wr_iload_n (wg_da dt_X2_wearer 2 rfl) rfl ?_
    refine wr_aload_n (wg_da dt_X2_wearer 3 rfl) rfl ?_
    refine wr_getI wf_X2_31 (wg_da dt_X2_wearer 4 rfl) hx0 ?_
    refine wr_icmp_ge 28 (wg_da dt_X2_wearer 5 rfl) (by decide) h (fun h => ?_) (fun h => ?_)
    · refine wr_iconst (-1 : Int32) (wg_da dt_X2_wearer 16 rfl) (by decide) ?_
      exact wr_iret (wg_da dt_X2_wearer 17 rfl) h
    · refine wr_aload_n (wg_da dt_X2_wearer 6 rfl) rfl ?_
      refine wr_getR wf_X2_18 (wg_da dt_X2_wearer 7 rfl) hx0 ?_
      refine wr_iload_n (wg_da dt_X2_wearer 8 rfl) rfl ?_
      refine wr_iald (wg_da dt_X2_wearer 9 rfl) (wg_ty Sc_ok 2 2 0 hx0 rfl (by decide)).2 h (fun v1 h => ?_)
      refine wr_iload_n (wg_da dt_X2_wearer 10 rfl) rfl ?_
      refine wr_icmp_ne 22 (wg_da dt_X2_wearer 11 rfl) (by decide) h (fun h => ?_) (fun h => ?_)
      · refine wr_iload_n (wg_da dt_X2_wearer 12 rfl) rfl ?_
        exact wr_iret (wg_da dt_X2_wearer 13 rfl) h
      · refine wr_iinc (c0 := (1 : Int32)) (wg_da dt_X2_wearer 14 rfl) rfl (by decide) (by decide) h (fun v2 h => ?_)
        refine wr_goto 2 (wg_da dt_X2_wearer 15 rfl) (by decide) ?_
        exact wr_wk [true, true, true] (ih x0 x1 v2 σ hx0 h)
set_option maxRecDepth 20000 in
theorem g_X2_wearer_e (l : Launch) (E : wg_E)  (x0 : Nat) (x1 : Int32) (σ : wg_M) (z : Int32 × wg_M) (hx0 : wg_t Sc x0 = 4) (h : f_X2_wearer  x0 x1 σ = some z) : wg_G l E Sc "WornWigs$Judges" cX2_wearer 3 (some .int) rm_X2_wearer (some z.1) z.2 0 [some (.ref x0), some (.int x1), none] [] σ := by
  refine wr_iconst (0 : Int32) (wg_da dt_X2_wearer 0 rfl) (by decide) ?_
  refine wr_istore_n (wg_da dt_X2_wearer 1 rfl) (by decide) ?_
  exact wr_wk [true, true, true] (g_X2_wearer_2 l E  _  wg_N x0 x1 (0 : Int32) σ hx0 h)
theorem m_X2_wearer (l : Launch) (E : wg_E) (x0 : Nat) (x1 : Int32) (hx0 : wg_t Sc x0 = 4) (σ : wg_M) (q : Int32 × wg_M) (h : f_X2_wearer x0 x1 σ = some q) : wg_MG l E Sc yX2_wearer cX2_wearer 3 (some .int) rm_X2_wearer [.ref x0, .int x1] σ (some q.1) q.2 :=
  wg_met [.ref x0, .int x1] (plainFor_of_name (by decide)) (Nat.le_of_ble_eq_true rfl) (g_X2_wearer_e l E x0 x1 σ q hx0 h)
abbrev rm_X9_knows : Room := { frames := 0, cells := 0, slots := 0, locals := 0 }
def tb_X9_knows : List (Nat × Instr × Nat) := [(0, .iconst 0, 1), (1, .istore_n 3, 1), (2, .iload_n 3, 1), (3, .aload_n 0, 1), (4, .getfield 24, 3), (7, .iload_n 1, 1), (8, .iaload, 1), (9, .if_icmp .ge 26, 3), (12, .aload_n 0, 1), (13, .getfield 27, 3), (16, .iload_n 1, 1), (17, .bipush 8, 2), (19, .imul, 1), (20, .iload_n 3, 1), (21, .iadd, 1), (22, .iaload, 1), (23, .iload_n 2, 1), (24, .if_icmp .ne 5, 3), (27, .iconst 1, 1), (28, .ireturn, 1), (29, .iinc 3 1, 3), (32, .goto (-30), 3), (35, .iconst 0, 1), (36, .ireturn, 1)]
theorem dt_X9_knows : wg_dc cX9_knows tb_X9_knows := by unfold wg_dc; decide +kernel
def f_X9_knows_2  : Nat → Nat → Int32 → Int32 → Int32 → wg_M → Option (Int32 × wg_M)
  | 0, _, _, _, _, _ => none
  | n + 1, x0, x1, x2, x3, σ => wg_ga (wg_n Sc (wg_r Sc x0 4)) (σ (wg_r Sc x0 4)) x1 (fun v1 => if v1 ≤ x3 then (some ((0 : Int32), σ)) else (wg_ga (wg_n Sc (wg_r Sc x0 5)) (σ (wg_r Sc x0 5)) ((x1 * (8 : Int32)) + x3) (fun v2 => if v2 = x2 then (some ((1 : Int32), σ)) else (wg_let (x3 + (1 : Int32)) (fun v3 => f_X9_knows_2  n x0 x1 x2 v3 σ)))))
def f_X9_knows  (x0 : Nat) (x1 : Int32) (x2 : Int32) (σ : wg_M) : Option (Int32 × wg_M) := f_X9_knows_2  wg_N x0 x1 x2 (0 : Int32) σ
set_option maxRecDepth 20000 in
theorem g_X9_knows_2 (l : Launch) (E : wg_E)  (z : Int32 × wg_M) : ∀ (n : Nat) (x0 : Nat) (x1 : Int32) (x2 : Int32) (x3 : Int32) (σ : wg_M) (hx0 : wg_t Sc x0 = 11) (h : f_X9_knows_2  n x0 x1 x2 x3 σ = some z), wg_G l E Sc "WornWigs$Wigs" cX9_knows 4 (some .boolean) rm_X9_knows (some z.1) z.2 2 [some (.ref x0), some (.int x1), some (.int x2), some (.int x3)] [] σ := by
  intro n
  induction n with
  | zero => intro x0 x1 x2 x3 σ hx0 h; cases h
  | succ n ih =>
    intro x0 x1 x2 x3 σ hx0 h
    refine wr_iload_n (wg_da dt_X9_knows 2 rfl) rfl ?_
    refine wr_aload_n (wg_da dt_X9_knows 3 rfl) rfl ?_
    refine wr_getR wf_X9_24 (wg_da dt_X9_knows 4 rfl) hx0 ?_
    refine wr_iload_n (wg_da dt_X9_knows 5 rfl) rfl ?_
    refine wr_iald (wg_da dt_X9_knows 6 rfl) (wg_ty Sc_ok 9 4 0 hx0 rfl (by decide)).2 h (fun v1 h => ?_)
    refine wr_icmp_ge 35 (wg_da dt_X9_knows 7 rfl) (by decide) h (fun h => ?_) (fun h => ?_)
    · refine wr_iconst (0 : Int32) (wg_da dt_X9_knows 22 rfl) (by decide) ?_
      exact wr_zret0 (wg_da dt_X9_knows 23 rfl) h
    · refine wr_aload_n (wg_da dt_X9_knows 8 rfl) rfl ?_
      refine wr_getR wf_X9_27 (wg_da dt_X9_knows 9 rfl) hx0 ?_
      refine wr_iload_n (wg_da dt_X9_knows 10 rfl) rfl ?_
      refine wr_bipush (8 : Int32) (wg_da dt_X9_knows 11 rfl) (by decide) ?_
      refine wr_imul (wg_da dt_X9_knows 12 rfl) ?_
      refine wr_iload_n (wg_da dt_X9_knows 13 rfl) rfl ?_
      refine wr_iadd (wg_da dt_X9_knows 14 rfl) ?_
      refine wr_iald (wg_da dt_X9_knows 15 rfl) (wg_ty Sc_ok 9 5 0 hx0 rfl (by decide)).2 h (fun v2 h => ?_)
      refine wr_iload_n (wg_da dt_X9_knows 16 rfl) rfl ?_
      refine wr_icmp_ne 29 (wg_da dt_X9_knows 17 rfl) (by decide) h (fun h => ?_) (fun h => ?_)
      · refine wr_iconst (1 : Int32) (wg_da dt_X9_knows 18 rfl) (by decide) ?_
        exact wr_zret1 (wg_da dt_X9_knows 19 rfl) h
      · refine wr_iinc (c0 := (1 : Int32)) (wg_da dt_X9_knows 20 rfl) rfl (by decide) (by decide) h (fun v3 h => ?_)
        refine wr_goto 2 (wg_da dt_X9_knows 21 rfl) (by decide) ?_
        exact wr_wk [true, true, true, true] (ih x0 x1 x2 v3 σ hx0 h)
set_option maxRecDepth 20000 in
theorem g_X9_knows_e (l : Launch) (E : wg_E)  (x0 : Nat) (x1 : Int32) (x2 : Int32) (σ : wg_M) (z : Int32 × wg_M) (hx0 : wg_t Sc x0 = 11) (h : f_X9_knows  x0 x1 x2 σ = some z) : wg_G l E Sc "WornWigs$Wigs" cX9_knows 4 (some .boolean) rm_X9_knows (some z.1) z.2 0 [some (.ref x0), some (.int x1), some (.int x2), none] [] σ := by
  refine wr_iconst (0 : Int32) (wg_da dt_X9_knows 0 rfl) (by decide) ?_
  refine wr_istore_n (wg_da dt_X9_knows 1 rfl) (by decide) ?_
  exact wr_wk [true, true, true, true] (g_X9_knows_2 l E  _  wg_N x0 x1 x2 (0 : Int32) σ hx0 h)
theorem m_X9_knows (l : Launch) (E : wg_E) (x0 : Nat) (x1 : Int32) (x2 : Int32) (hx0 : wg_t Sc x0 = 11) (σ : wg_M) (q : Int32 × wg_M) (h : f_X9_knows x0 x1 x2 σ = some q) : wg_MG l E Sc yX9_knows cX9_knows 4 (some .boolean) rm_X9_knows [.ref x0, .int x1, .int x2] σ (some q.1) q.2 :=
  wg_met [.ref x0, .int x1, .int x2] (plainFor_of_name (by decide)) (Nat.le_of_ble_eq_true rfl) (g_X9_knows_e l E x0 x1 x2 σ q hx0 h)
abbrev rm_X11_within : Room := { frames := 0, cells := 0, slots := 0, locals := 0 }
def tb_X11_within : List (Nat × Instr × Nat) := [(0, .iload_n 0, 1), (1, .iload_n 1, 1), (2, .if_icmp .lt 12, 3), (5, .iload_n 0, 1), (6, .iload_n 2, 1), (7, .if_icmp .gt 7, 3), (10, .iconst 1, 1), (11, .goto 4, 3), (14, .iconst 0, 1), (15, .ireturn, 1)]
theorem dt_X11_within : wg_dc cX11_within tb_X11_within := by unfold wg_dc; decide +kernel
def f_X11_within  (x0 : Int32) (x1 : Int32) (x2 : Int32) (σ : wg_M) : Option (Int32 × wg_M) := if x0 < x1 then (some ((0 : Int32), σ)) else (if x2 < x0 then (some ((0 : Int32), σ)) else (some ((1 : Int32), σ)))
set_option maxRecDepth 20000 in
theorem g_X11_within_e (l : Launch) (E : wg_E)  (x0 : Int32) (x1 : Int32) (x2 : Int32) (σ : wg_M) (z : Int32 × wg_M)  (h : f_X11_within  x0 x1 x2 σ = some z) : wg_G l E Sc "WornWigs" cX11_within 3 (some .boolean) rm_X11_within (some z.1) z.2 0 [some (.int x0), some (.int x1), some (.int x2)] [] σ := by
  refine wr_iload_n (wg_da dt_X11_within 0 rfl) rfl ?_
  refine wr_iload_n (wg_da dt_X11_within 1 rfl) rfl ?_
  refine wr_icmp_lt 14 (wg_da dt_X11_within 2 rfl) (by decide) h (fun h => ?_) (fun h => ?_)
  · refine wr_iconst (0 : Int32) (wg_da dt_X11_within 8 rfl) (by decide) ?_
    exact wr_zret0 (wg_da dt_X11_within 9 rfl) h
  · refine wr_iload_n (wg_da dt_X11_within 3 rfl) rfl ?_
    refine wr_iload_n (wg_da dt_X11_within 4 rfl) rfl ?_
    refine wr_icmp_gt 14 (wg_da dt_X11_within 5 rfl) (by decide) h (fun h => ?_) (fun h => ?_)
    · refine wr_iconst (0 : Int32) (wg_da dt_X11_within 8 rfl) (by decide) ?_
      exact wr_zret0 (wg_da dt_X11_within 9 rfl) h
    · refine wr_iconst (1 : Int32) (wg_da dt_X11_within 6 rfl) (by decide) ?_
      refine wr_goto 15 (wg_da dt_X11_within 7 rfl) (by decide) ?_
      exact wr_zret1 (wg_da dt_X11_within 9 rfl) h
theorem m_X11_within (l : Launch) (E : wg_E) (x0 : Int32) (x1 : Int32) (x2 : Int32)  (σ : wg_M) (q : Int32 × wg_M) (h : f_X11_within x0 x1 x2 σ = some q) : wg_MG l E Sc yX11_within cX11_within 3 (some .boolean) rm_X11_within [.int x0, .int x1, .int x2] σ (some q.1) q.2 :=
  wg_met [.int x0, .int x1, .int x2] (plainFor_of_name (by decide)) (Nat.le_of_ble_eq_true rfl) (g_X11_within_e l E x0 x1 x2 σ q  h)
abbrev rm_X1_canDo : Room := { frames := 2, cells := 0, slots := 0, locals := 42 }
def tb_X1_canDo : List (Nat × Instr × Nat) := [(0, .aload_n 0, 1), (1, .getfield 32, 3), (4, .iload_n 2, 1), (5, .invokevirtual 135, 3), (8, .ifCond .ne 5, 3), (11, .iconst 0, 1), (12, .ireturn, 1), (13, .iload_n 1, 1), (14, .tableswitch 96 0 3 #[30, 60, 78, 88], 30), (44, .aload_n 0, 1), (45, .getfield 37, 3), (48, .iload_n 3, 1), (49, .invokevirtual 166, 3), (52, .ifCond .eq 20, 3), (55, .aload_n 0, 1), (56, .getfield 37, 3), (59, .getfield 132, 3), (62, .iload_n 3, 1), (63, .iaload, 1), (64, .iconst (-1), 1), (65, .if_icmp .ne 7, 3), (68, .iconst 1, 1), (69, .goto 4, 3), (72, .iconst 0, 1), (73, .ireturn, 1), (74, .aload_n 0, 1), (75, .getfield 37, 3), (78, .iload_n 2, 1), (79, .invokevirtual 190, 3), (82, .iconst (-1), 1), (83, .if_icmp .eq 7, 3), (86, .iconst 1, 1), (87, .goto 4, 3), (90, .iconst 0, 1), (91, .ireturn, 1), (92, .aload_n 0, 1), (93, .getfield 32, 3), (96, .iload_n 2, 1), (97, .iload_n 3, 1), (98, .invokevirtual 193, 3), (101, .ireturn, 1), (102, .iload_n 3, 1), (103, .iconst 1, 1), (104, .bipush 99, 2), (106, .invokestatic 197, 3), (109, .ireturn, 1), (110, .iconst 0, 1), (111, .ireturn, 1)]
theorem dt_X1_canDo : wg_dc cX1_canDo tb_X1_canDo := by unfold wg_dc; decide +kernel
def f_X1_canDo  (x0 : Nat) (x1 : Int32) (x2 : Int32) (x3 : Int32) (σ : wg_M) : Option (Int32 × wg_M) := wg_bd (f_X9_has (wg_r Sc x0 2) x2 σ) (fun v1 s2 => if v1 = 0 then (some ((0 : Int32), s2)) else (wg_sw x1 (0) [wg_bd (f_X2_lives (wg_r Sc x0 3) x3 s2) (fun v3 s4 => if v3 = 0 then (some ((0 : Int32), s4)) else (wg_ga (wg_n Sc (wg_r Sc (wg_r Sc x0 3) 2)) (s4 (wg_r Sc (wg_r Sc x0 3) 2)) x3 (fun v5 => if v5 = (-1 : Int32) then (some ((1 : Int32), s4)) else (some ((0 : Int32), s4))))), wg_bd (f_X2_wearer (wg_r Sc x0 3) x2 s2) (fun v6 s7 => if v6 = (-1 : Int32) then (some ((0 : Int32), s7)) else (some ((1 : Int32), s7))), wg_bd (f_X9_knows (wg_r Sc x0 2) x2 x3 s2) (fun v8 s9 => wg_bz v8 (some (v8, s9))), wg_bd (f_X11_within x3 (1 : Int32) (99 : Int32) s2) (fun v10 s11 => wg_bz v10 (some (v10, s11)))] (some ((0 : Int32), s2))))
set_option maxRecDepth 20000 in
theorem g_X1_canDo_e (l : Launch) (E : wg_E)  (x0 : Nat) (x1 : Int32) (x2 : Int32) (x3 : Int32) (σ : wg_M) (z : Int32 × wg_M) (hx0 : wg_t Sc x0 = 3) (h : f_X1_canDo  x0 x1 x2 x3 σ = some z) : wg_G l E Sc "WornWigs$Court" cX1_canDo 4 (some .boolean) rm_X1_canDo (some z.1) z.2 0 [some (.ref x0), some (.int x1), some (.int x2), some (.int x3)] [] σ := by
  refine wr_aload_n (wg_da dt_X1_canDo 0 rfl) rfl ?_
  refine wr_getR wf_X1_32 (wg_da dt_X1_canDo 1 rfl) hx0 ?_
  refine wr_iload_n (wg_da dt_X1_canDo 2 rfl) rfl ?_
  refine wr_callVi [.int x2] [] (wg_da dt_X1_canDo 3 rfl) ⟨wq_3_164, wq_3_76, wq_3_77⟩ (wg_ty Sc_ok 1 2 11 hx0 rfl (by decide)).2 ⟨rfl, by decide⟩ wy_X9_has (fun q hq => m_X9_has l E (wg_r Sc x0 2) x2 (wg_ty Sc_ok 1 2 11 hx0 rfl (by decide)).2 _ q hq) rfl rfl (Nat.le_of_ble_eq_true rfl) ⟨rfl, rfl, by decide, by decide⟩ h (fun v1 s2 h => ?_)
  refine wr_if_ne 13 (wg_da dt_X1_canDo 4 rfl) (by decide) h (fun h => ?_) (fun h => ?_)
  · refine wr_iconst (0 : Int32) (wg_da dt_X1_canDo 5 rfl) (by decide) ?_
    exact wr_zret0 (wg_da dt_X1_canDo 6 rfl) h
  · refine wr_iload_n (wg_da dt_X1_canDo 7 rfl) rfl ?_
    refine wr_tsw [44, 74, 92, 102] 110 (wg_da dt_X1_canDo 8 rfl) rfl rfl (by decide) (by decide) h (wg_all_c (fun h => ?_) (wg_all_c (fun h => ?_) (wg_all_c (fun h => ?_) (wg_all_c (fun h => ?_) (wg_all_n))))) (fun h => ?_)
    · refine wr_aload_n (wg_da dt_X1_canDo 9 rfl) rfl ?_
      refine wr_getR wf_X1_37 (wg_da dt_X1_canDo 10 rfl) hx0 ?_
      refine wr_iload_n (wg_da dt_X1_canDo 11 rfl) rfl ?_
      refine wr_callVi [.int x3] [] (wg_da dt_X1_canDo 12 rfl) ⟨wq_3_125, wq_3_126, wq_3_127⟩ (wg_ty Sc_ok 1 3 4 hx0 rfl (by decide)).2 ⟨rfl, by decide⟩ wy_X2_lives (fun q hq => m_X2_lives l E (wg_r Sc x0 3) x3 (wg_ty Sc_ok 1 3 4 hx0 rfl (by decide)).2 _ q hq) rfl rfl (Nat.le_of_ble_eq_true rfl) ⟨rfl, rfl, by decide, by decide⟩ h (fun v3 s4 h => ?_)
      refine wr_if_eq 72 (wg_da dt_X1_canDo 13 rfl) (by decide) h (fun h => ?_) (fun h => ?_)
      · refine wr_iconst (0 : Int32) (wg_da dt_X1_canDo 23 rfl) (by decide) ?_
        exact wr_zret0 (wg_da dt_X1_canDo 24 rfl) h
      · refine wr_aload_n (wg_da dt_X1_canDo 14 rfl) rfl ?_
        refine wr_getR wf_X1_37 (wg_da dt_X1_canDo 15 rfl) hx0 ?_
        refine wr_getR wf_X1_132 (wg_da dt_X1_canDo 16 rfl) (wg_ty Sc_ok 1 3 4 hx0 rfl (by decide)).2 ?_
        refine wr_iload_n (wg_da dt_X1_canDo 17 rfl) rfl ?_
        refine wr_iald (wg_da dt_X1_canDo 18 rfl) (wg_ty Sc_ok 2 2 0 (wg_ty Sc_ok 1 3 4 hx0 rfl (by decide)).2 rfl (by decide)).2 h (fun v5 h => ?_)
        refine wr_iconst (-1 : Int32) (wg_da dt_X1_canDo 19 rfl) (by decide) ?_
        refine wr_icmp_ne 72 (wg_da dt_X1_canDo 20 rfl) (by decide) h (fun h => ?_) (fun h => ?_)
        · refine wr_iconst (1 : Int32) (wg_da dt_X1_canDo 21 rfl) (by decide) ?_
          refine wr_goto 73 (wg_da dt_X1_canDo 22 rfl) (by decide) ?_
          exact wr_zret1 (wg_da dt_X1_canDo 24 rfl) h
        · refine wr_iconst (0 : Int32) (wg_da dt_X1_canDo 23 rfl) (by decide) ?_
          exact wr_zret0 (wg_da dt_X1_canDo 24 rfl) h
    · refine wr_aload_n (wg_da dt_X1_canDo 25 rfl) rfl ?_
      refine wr_getR wf_X1_37 (wg_da dt_X1_canDo 26 rfl) hx0 ?_
      refine wr_iload_n (wg_da dt_X1_canDo 27 rfl) rfl ?_
      refine wr_callVi [.int x2] [] (wg_da dt_X1_canDo 28 rfl) ⟨wq_3_231, wq_3_232, wq_3_233⟩ (wg_ty Sc_ok 1 3 4 hx0 rfl (by decide)).2 ⟨rfl, by decide⟩ wy_X2_wearer (fun q hq => m_X2_wearer l E (wg_r Sc x0 3) x2 (wg_ty Sc_ok 1 3 4 hx0 rfl (by decide)).2 _ q hq) rfl rfl (Nat.le_of_ble_eq_true rfl) ⟨rfl, rfl, by decide, by decide⟩ h (fun v6 s7 h => ?_)
      refine wr_iconst (-1 : Int32) (wg_da dt_X1_canDo 29 rfl) (by decide) ?_
      refine wr_icmp_eq 90 (wg_da dt_X1_canDo 30 rfl) (by decide) h (fun h => ?_) (fun h => ?_)
      · refine wr_iconst (0 : Int32) (wg_da dt_X1_canDo 33 rfl) (by decide) ?_
        exact wr_zret0 (wg_da dt_X1_canDo 34 rfl) h
      · refine wr_iconst (1 : Int32) (wg_da dt_X1_canDo 31 rfl) (by decide) ?_
        refine wr_goto 91 (wg_da dt_X1_canDo 32 rfl) (by decide) ?_
        exact wr_zret1 (wg_da dt_X1_canDo 34 rfl) h
    · refine wr_aload_n (wg_da dt_X1_canDo 35 rfl) rfl ?_
      refine wr_getR wf_X1_32 (wg_da dt_X1_canDo 36 rfl) hx0 ?_
      refine wr_iload_n (wg_da dt_X1_canDo 37 rfl) rfl ?_
      refine wr_iload_n (wg_da dt_X1_canDo 38 rfl) rfl ?_
      refine wr_callVi [.int x2, .int x3] [] (wg_da dt_X1_canDo 39 rfl) ⟨wq_3_235, wq_3_236, wq_3_237⟩ (wg_ty Sc_ok 1 2 11 hx0 rfl (by decide)).2 ⟨rfl, by decide⟩ wy_X9_knows (fun q hq => m_X9_knows l E (wg_r Sc x0 2) x2 x3 (wg_ty Sc_ok 1 2 11 hx0 rfl (by decide)).2 _ q hq) rfl rfl (Nat.le_of_ble_eq_true rfl) ⟨rfl, rfl, by decide, by decide⟩ h (fun v8 s9 h => ?_)
      exact wr_zret (wg_da dt_X1_canDo 40 rfl) h
    · refine wr_iload_n (wg_da dt_X1_canDo 41 rfl) rfl ?_
      refine wr_iconst (1 : Int32) (wg_da dt_X1_canDo 42 rfl) (by decide) ?_
      refine wr_bipush (99 : Int32) (wg_da dt_X1_canDo 43 rfl) (by decide) ?_
      refine wr_callNi [.int x3, .int (1 : Int32), .int (99 : Int32)] [] (wg_da dt_X1_canDo 44 rfl) ⟨List.mem_of_getElem? (i := 13) rfl, wq_3_49⟩ wy_X11_within (fun q hq => m_X11_within l E x3 (1 : Int32) (99 : Int32)  _ q hq) rfl rfl (Nat.le_of_ble_eq_true rfl) ⟨rfl, rfl, by decide, by decide⟩ h (fun v10 s11 h => ?_)
      exact wr_zret (wg_da dt_X1_canDo 45 rfl) h
    · refine wr_iconst (0 : Int32) (wg_da dt_X1_canDo 46 rfl) (by decide) ?_
      exact wr_zret0 (wg_da dt_X1_canDo 47 rfl) h
theorem m_X1_canDo (l : Launch) (E : wg_E) (x0 : Nat) (x1 : Int32) (x2 : Int32) (x3 : Int32) (hx0 : wg_t Sc x0 = 3) (σ : wg_M) (q : Int32 × wg_M) (h : f_X1_canDo x0 x1 x2 x3 σ = some q) : wg_MG l E Sc yX1_canDo cX1_canDo 4 (some .boolean) rm_X1_canDo [.ref x0, .int x1, .int x2, .int x3] σ (some q.1) q.2 :=
  wg_met [.ref x0, .int x1, .int x2, .int x3] (plainFor_of_name (by decide)) (Nat.le_of_ble_eq_true rfl) (g_X1_canDo_e l E x0 x1 x2 x3 σ q hx0 h)
abbrev rm_X1_takeOff : Room := { frames := 1, cells := 0, slots := 0, locals := 22 }
def tb_X1_takeOff : List (Nat × Instr × Nat) := [(0, .aload_n 0, 1), (1, .getfield 37, 3), (4, .iload_n 1, 1), (5, .invokevirtual 190, 3), (8, .istore_n 2, 1), (9, .iload_n 2, 1), (10, .iconst (-1), 1), (11, .if_icmp .eq 13, 3), (14, .aload_n 0, 1), (15, .getfield 37, 3), (18, .getfield 132, 3), (21, .iload_n 2, 1), (22, .iconst (-1), 1), (23, .iastore, 1), (24, .return_, 1)]
theorem dt_X1_takeOff : wg_dc cX1_takeOff tb_X1_takeOff := by unfold wg_dc; decide +kernel
def f_X1_takeOff  (x0 : Nat) (x1 : Int32) (σ : wg_M) : Option (Int32 × wg_M) := wg_bd (f_X2_wearer (wg_r Sc x0 3) x1 σ) (fun v1 s2 => if v1 = (-1 : Int32) then (some (0, s2)) else (wg_sa (wg_n Sc (wg_r Sc (wg_r Sc x0 3) 2)) s2 (wg_r Sc (wg_r Sc x0 3) 2) v1 (-1 : Int32) (fun s3 => some (0, s3))))
set_option maxRecDepth 20000 in
theorem g_X1_takeOff_e (l : Launch) (E : wg_E)  (x0 : Nat) (x1 : Int32) (σ : wg_M) (z : Int32 × wg_M) (hx0 : wg_t Sc x0 = 3) (h : f_X1_takeOff  x0 x1 σ = some z) : wg_G l E Sc "WornWigs$Court" cX1_takeOff 3 none rm_X1_takeOff none z.2 0 [some (.ref x0), some (.int x1), none] [] σ := by
  refine wr_aload_n (wg_da dt_X1_takeOff 0 rfl) rfl ?_
  refine wr_getR wf_X1_37 (wg_da dt_X1_takeOff 1 rfl) hx0 ?_
  refine wr_iload_n (wg_da dt_X1_takeOff 2 rfl) rfl ?_
  refine wr_callVi [.int x1] [] (wg_da dt_X1_takeOff 3 rfl) ⟨wq_3_231, wq_3_232, wq_3_233⟩ (wg_ty Sc_ok 1 3 4 hx0 rfl (by decide)).2 ⟨rfl, by decide⟩ wy_X2_wearer (fun q hq => m_X2_wearer l E (wg_r Sc x0 3) x1 (wg_ty Sc_ok 1 3 4 hx0 rfl (by decide)).2 _ q hq) rfl rfl (Nat.le_of_ble_eq_true rfl) ⟨rfl, rfl, by decide, by decide⟩ h (fun v1 s2 h => ?_)
  refine wr_istore_n (wg_da dt_X1_takeOff 4 rfl) (by decide) ?_
  refine wr_iload_n (wg_da dt_X1_takeOff 5 rfl) rfl ?_
  refine wr_iconst (-1 : Int32) (wg_da dt_X1_takeOff 6 rfl) (by decide) ?_
  refine wr_icmp_eq 24 (wg_da dt_X1_takeOff 7 rfl) (by decide) h (fun h => ?_) (fun h => ?_)
  · exact wr_vret (wg_da dt_X1_takeOff 14 rfl) h
  · refine wr_aload_n (wg_da dt_X1_takeOff 8 rfl) rfl ?_
    refine wr_getR wf_X1_37 (wg_da dt_X1_takeOff 9 rfl) hx0 ?_
    refine wr_getR wf_X1_132 (wg_da dt_X1_takeOff 10 rfl) (wg_ty Sc_ok 1 3 4 hx0 rfl (by decide)).2 ?_
    refine wr_iload_n (wg_da dt_X1_takeOff 11 rfl) rfl ?_
    refine wr_iconst (-1 : Int32) (wg_da dt_X1_takeOff 12 rfl) (by decide) ?_
    refine wr_iast (wg_da dt_X1_takeOff 13 rfl) (wg_ty Sc_ok 2 2 0 (wg_ty Sc_ok 1 3 4 hx0 rfl (by decide)).2 rfl (by decide)).2 h (fun s3 h => ?_)
    exact wr_vret (wg_da dt_X1_takeOff 14 rfl) h
theorem m_X1_takeOff (l : Launch) (E : wg_E) (x0 : Nat) (x1 : Int32) (hx0 : wg_t Sc x0 = 3) (σ : wg_M) (q : Int32 × wg_M) (h : f_X1_takeOff x0 x1 σ = some q) : wg_MG l E Sc yX1_takeOff cX1_takeOff 3 none rm_X1_takeOff [.ref x0, .int x1] σ none q.2 :=
  wg_met [.ref x0, .int x1] (plainFor_of_name (by decide)) (Nat.le_of_ble_eq_true rfl) (g_X1_takeOff_e l E x0 x1 σ q hx0 h)
abbrev rm_X1_putOn : Room := { frames := 2, cells := 0, slots := 0, locals := 48 }
def tb_X1_putOn : List (Nat × Instr × Nat) := [(0, .aload_n 0, 1), (1, .iload_n 1, 1), (2, .invokevirtual 204, 3), (5, .aload_n 0, 1), (6, .getfield 37, 3), (9, .getfield 132, 3), (12, .iload_n 2, 1), (13, .iload_n 1, 1), (14, .iastore, 1), (15, .aload_n 0, 1), (16, .getfield 32, 3), (19, .getfield 105, 3), (22, .iload_n 1, 1), (23, .dup2, 1), (24, .iaload, 1), (25, .iconst 1, 1), (26, .iadd, 1), (27, .iastore, 1), (28, .aload_n 0, 1), (29, .iconst 1, 1), (30, .iload_n 1, 1), (31, .iload_n 2, 1), (32, .invokevirtual 186, 3), (35, .return_, 1)]
theorem dt_X1_putOn : wg_dc cX1_putOn tb_X1_putOn := by unfold wg_dc; decide +kernel
def f_X1_putOn  (x0 : Nat) (x1 : Int32) (x2 : Int32) (σ : wg_M) : Option (Int32 × wg_M) := wg_bd (f_X1_takeOff x0 x1 σ) (fun _ s1 => wg_sa (wg_n Sc (wg_r Sc (wg_r Sc x0 3) 2)) s1 (wg_r Sc (wg_r Sc x0 3) 2) x2 x1 (fun s2 => wg_ga (wg_n Sc (wg_r Sc (wg_r Sc x0 2) 3)) (s2 (wg_r Sc (wg_r Sc x0 2) 3)) x1 (fun v3 => wg_sa (wg_n Sc (wg_r Sc (wg_r Sc x0 2) 3)) s2 (wg_r Sc (wg_r Sc x0 2) 3) x1 (v3 + (1 : Int32)) (fun s4 => wg_bd (f_X1_note x0 (1 : Int32) x1 x2 s4) (fun _ s5 => some (0, s5))))))
set_option maxRecDepth 20000 in
theorem g_X1_putOn_e (l : Launch) (E : wg_E)  (x0 : Nat) (x1 : Int32) (x2 : Int32) (σ : wg_M) (z : Int32 × wg_M) (hx0 : wg_t Sc x0 = 3) (h : f_X1_putOn  x0 x1 x2 σ = some z) : wg_G l E Sc "WornWigs$Court" cX1_putOn 3 none rm_X1_putOn none z.2 0 [some (.ref x0), some (.int x1), some (.int x2)] [] σ := by
  refine wr_aload_n (wg_da dt_X1_putOn 0 rfl) rfl ?_
  refine wr_iload_n (wg_da dt_X1_putOn 1 rfl) rfl ?_
  refine wr_callVv [.int x1] [] (wg_da dt_X1_putOn 2 rfl) ⟨wq_4_8, wq_4_10, wq_p1_10⟩ hx0 ⟨rfl, by decide⟩ wy_X1_takeOff (fun q hq => m_X1_takeOff l E x0 x1 hx0 _ q hq) rfl rfl (Nat.le_of_ble_eq_true rfl) ⟨rfl, rfl, by decide, by decide⟩ h (fun _ s1 h => ?_)
  refine wr_aload_n (wg_da dt_X1_putOn 3 rfl) rfl ?_
  refine wr_getR wf_X1_37 (wg_da dt_X1_putOn 4 rfl) hx0 ?_
  refine wr_getR wf_X1_132 (wg_da dt_X1_putOn 5 rfl) (wg_ty Sc_ok 1 3 4 hx0 rfl (by decide)).2 ?_
  refine wr_iload_n (wg_da dt_X1_putOn 6 rfl) rfl ?_
  refine wr_iload_n (wg_da dt_X1_putOn 7 rfl) rfl ?_
  refine wr_iast (wg_da dt_X1_putOn 8 rfl) (wg_ty Sc_ok 2 2 0 (wg_ty Sc_ok 1 3 4 hx0 rfl (by decide)).2 rfl (by decide)).2 h (fun s2 h => ?_)
  refine wr_aload_n (wg_da dt_X1_putOn 9 rfl) rfl ?_
  refine wr_getR wf_X1_32 (wg_da dt_X1_putOn 10 rfl) hx0 ?_
  refine wr_getR wf_X1_105 (wg_da dt_X1_putOn 11 rfl) (wg_ty Sc_ok 1 2 11 hx0 rfl (by decide)).2 ?_
  refine wr_iload_n (wg_da dt_X1_putOn 12 rfl) rfl ?_
  refine wr_dup2 (wg_da dt_X1_putOn 13 rfl) ?_
  refine wr_iald (wg_da dt_X1_putOn 14 rfl) (wg_ty Sc_ok 9 3 0 (wg_ty Sc_ok 1 2 11 hx0 rfl (by decide)).2 rfl (by decide)).2 h (fun v3 h => ?_)
  refine wr_iconst (1 : Int32) (wg_da dt_X1_putOn 15 rfl) (by decide) ?_
  refine wr_iadd (wg_da dt_X1_putOn 16 rfl) ?_
  refine wr_iast (wg_da dt_X1_putOn 17 rfl) (wg_ty Sc_ok 9 3 0 (wg_ty Sc_ok 1 2 11 hx0 rfl (by decide)).2 rfl (by decide)).2 h (fun s4 h => ?_)
  refine wr_aload_n (wg_da dt_X1_putOn 18 rfl) rfl ?_
  refine wr_iconst (1 : Int32) (wg_da dt_X1_putOn 19 rfl) (by decide) ?_
  refine wr_iload_n (wg_da dt_X1_putOn 20 rfl) rfl ?_
  refine wr_iload_n (wg_da dt_X1_putOn 21 rfl) rfl ?_
  refine wr_callVv [.int (1 : Int32), .int x1, .int x2] [] (wg_da dt_X1_putOn 22 rfl) ⟨wq_3_215, wq_3_217, wq_p1_8⟩ hx0 ⟨rfl, by decide⟩ wy_X1_note (fun q hq => m_X1_note l E x0 (1 : Int32) x1 x2 hx0 _ q hq) rfl rfl (Nat.le_of_ble_eq_true rfl) ⟨rfl, rfl, by decide, by decide⟩ h (fun _ s5 h => ?_)
  exact wr_vret (wg_da dt_X1_putOn 23 rfl) h
theorem m_X1_putOn (l : Launch) (E : wg_E) (x0 : Nat) (x1 : Int32) (x2 : Int32) (hx0 : wg_t Sc x0 = 3) (σ : wg_M) (q : Int32 × wg_M) (h : f_X1_putOn x0 x1 x2 σ = some q) : wg_MG l E Sc yX1_putOn cX1_putOn 3 none rm_X1_putOn [.ref x0, .int x1, .int x2] σ none q.2 :=
  wg_met [.ref x0, .int x1, .int x2] (plainFor_of_name (by decide)) (Nat.le_of_ble_eq_true rfl) (g_X1_putOn_e l E x0 x1 x2 σ q hx0 h)
abbrev rm_X9_dropCause : Room := { frames := 2, cells := 0, slots := 0, locals := 49 }
def tb_X9_dropCause : List (Nat × Instr × Nat) := [(0, .iload_n 1, 1), (1, .bipush 8, 2), (3, .imul, 1), (4, .istore_n 3, 1), (5, .iconst 0, 1), (6, .istore 4, 2), (8, .iconst 0, 1), (9, .istore 5, 2), (11, .iload 5, 2), (13, .aload_n 0, 1), (14, .getfield 24, 3), (17, .iload_n 1, 1), (18, .iaload, 1), (19, .if_icmp .ge 37, 3), (22, .aload_n 0, 1), (23, .getfield 27, 3), (26, .iload_n 3, 1), (27, .iload 5, 2), (29, .iadd, 1), (30, .iaload, 1), (31, .iload_n 2, 1), (32, .if_icmp .eq 18, 3), (35, .aload_n 0, 1), (36, .iload_n 3, 1), (37, .iload 5, 2), (39, .iadd, 1), (40, .iload_n 3, 1), (41, .iload 4, 2), (43, .iadd, 1), (44, .invokevirtual 52, 3), (47, .iinc 4 1, 3), (50, .iinc 5 1, 3), (53, .goto (-42), 3), (56, .aload_n 0, 1), (57, .getfield 24, 3), (60, .iload_n 1, 1), (61, .iaload, 1), (62, .iload 4, 2), (64, .isub, 1), (65, .istore 5, 2), (67, .aload_n 0, 1), (68, .getfield 24, 3), (71, .iload_n 1, 1), (72, .iload 4, 2), (74, .iastore, 1), (75, .aload_n 0, 1), (76, .iload_n 1, 1), (77, .invokevirtual 48, 3), (80, .iload 5, 2), (82, .ireturn, 1)]
theorem dt_X9_dropCause : wg_dc cX9_dropCause tb_X9_dropCause := by unfold wg_dc; decide +kernel
def f_X9_dropCause_50 (k11 : Nat → Int32 → Int32 → Int32 → Int32 → Int32 → wg_M → Option (Int32 × wg_M)) (x0 : Nat) (x1 : Int32) (x2 : Int32) (x3 : Int32) (x4 : Int32) (x5 : Int32) (σ : wg_M) : Option (Int32 × wg_M) := wg_let (x5 + (1 : Int32)) (fun v1 => k11 x0 x1 x2 x3 x4 v1 σ)
def f_X9_dropCause_11  : Nat → Nat → Int32 → Int32 → Int32 → Int32 → Int32 → wg_M → Option (Int32 × wg_M)
  | 0, _, _, _, _, _, _, _ => none
  | n + 1, x0, x1, x2, x3, x4, x5, σ => wg_ga (wg_n Sc (wg_r Sc x0 4)) (σ (wg_r Sc x0 4)) x1 (fun v1 => if v1 ≤ x5 then (wg_ga (wg_n Sc (wg_r Sc x0 4)) (σ (wg_r Sc x0 4)) x1 (fun v2 => wg_let (v2 - x4) (fun v3 => wg_sa (wg_n Sc (wg_r Sc x0 4)) σ (wg_r Sc x0 4) x1 x4 (fun s4 => wg_bd (f_X9_itchAnew x0 x1 s4) (fun _ s5 => some (v3, s5)))))) else (wg_ga (wg_n Sc (wg_r Sc x0 5)) (σ (wg_r Sc x0 5)) (x3 + x5) (fun v6 => if v6 = x2 then (f_X9_dropCause_50 (f_X9_dropCause_11  n) x0 x1 x2 x3 x4 x5 σ) else (wg_bd (f_X9_moveRule x0 (x3 + x5) (x3 + x4) σ) (fun _ s7 => wg_let (x4 + (1 : Int32)) (fun v8 => f_X9_dropCause_50 (f_X9_dropCause_11  n) x0 x1 x2 x3 v8 x5 s7))))))
def f_X9_dropCause  (x0 : Nat) (x1 : Int32) (x2 : Int32) (σ : wg_M) : Option (Int32 × wg_M) := wg_let (x1 * (8 : Int32)) (fun v1 => f_X9_dropCause_11  wg_N x0 x1 x2 v1 (0 : Int32) (0 : Int32) σ)
set_option maxRecDepth 20000 in
theorem g_X9_dropCause_50 (l : Launch) (E : wg_E) (k11 : Nat → Int32 → Int32 → Int32 → Int32 → Int32 → wg_M → Option (Int32 × wg_M)) (x0 : Nat) (x1 : Int32) (x2 : Int32) (x3 : Int32) (x4 : Int32) (x5 : Int32) (σ : wg_M) (z : Int32 × wg_M) (hx0 : wg_t Sc x0 = 11) (hk11 : ∀ (x0 : Nat) (x1 : Int32) (x2 : Int32) (x3 : Int32) (x4 : Int32) (x5 : Int32) (σ : wg_M), wg_t Sc x0 = 11 → k11 x0 x1 x2 x3 x4 x5 σ = some z → wg_G l E Sc "WornWigs$Wigs" cX9_dropCause 6 (some .int) rm_X9_dropCause (some z.1) z.2 11 [some (.ref x0), some (.int x1), some (.int x2), some (.int x3), some (.int x4), some (.int x5)] [] σ) (h : f_X9_dropCause_50 k11 x0 x1 x2 x3 x4 x5 σ = some z) : wg_G l E Sc "WornWigs$Wigs" cX9_dropCause 6 (some .int) rm_X9_dropCause (some z.1) z.2 50 [some (.ref x0), some (.int x1), some (.int x2), some (.int x3), some (.int x4), some (.int x5)] [] σ := by
  refine wr_iinc (c0 := (1 : Int32)) (wg_da dt_X9_dropCause 31 rfl) rfl (by decide) (by decide) h (fun v1 h => ?_)
  refine wr_goto 11 (wg_da dt_X9_dropCause 32 rfl) (by decide) ?_
  exact wr_wk [true, true, true, true, true, true] (hk11 x0 x1 x2 x3 x4 v1 σ hx0 h)
set_option maxRecDepth 20000 in
theorem g_X9_dropCause_11 (l : Launch) (E : wg_E)  (z : Int32 × wg_M) : ∀ (n : Nat) (x0 : Nat) (x1 : Int32) (x2 : Int32) (x3 : Int32) (x4 : Int32) (x5 : Int32) (σ : wg_M) (hx0 : wg_t Sc x0 = 11) (h : f_X9_dropCause_11  n x0 x1 x2 x3 x4 x5 σ = some z), wg_G l E Sc "WornWigs$Wigs" cX9_dropCause 6 (some .int) rm_X9_dropCause (some z.1) z.2 11 [some (.ref x0), some (.int x1), some (.int x2), some (.int x3), some (.int x4), some (.int x5)] [] σ := by
  intro n
  induction n with
  | zero => intro x0 x1 x2 x3 x4 x5 σ hx0 h; cases h
  | succ n ih =>
    intro x0 x1 x2 x3 x4 x5 σ hx0 h
    refine wr_iload (wg_da dt_X9_dropCause 8 rfl) rfl ?_
    refine wr_aload_n (wg_da dt_X9_dropCause 9 rfl) rfl ?_
    refine wr_getR wf_X9_24 (wg_da dt_X9_dropCause 10 rfl) hx0 ?_
    refine wr_iload_n (wg_da dt_X9_dropCause 11 rfl) rfl ?_
    refine wr_iald (wg_da dt_X9_dropCause 12 rfl) (wg_ty Sc_ok 9 4 0 hx0 rfl (by decide)).2 h (fun v1 h => ?_)
    refine wr_icmp_ge 56 (wg_da dt_X9_dropCause 13 rfl) (by decide) h (fun h => ?_) (fun h => ?_)
    · refine wr_aload_n (wg_da dt_X9_dropCause 33 rfl) rfl ?_
      refine wr_getR wf_X9_24 (wg_da dt_X9_dropCause 34 rfl) hx0 ?_
      refine wr_iload_n (wg_da dt_X9_dropCause 35 rfl) rfl ?_
      refine wr_iald (wg_da dt_X9_dropCause 36 rfl) (wg_ty Sc_ok 9 4 0 hx0 rfl (by decide)).2 h (fun v2 h => ?_)
      refine wr_iload (wg_da dt_X9_dropCause 37 rfl) rfl ?_
      refine wr_isub (wg_da dt_X9_dropCause 38 rfl) ?_
      refine wr_let h (fun v3 h => ?_)
      refine wr_istore (wg_da dt_X9_dropCause 39 rfl) (by decide) ?_
      refine wr_aload_n (wg_da dt_X9_dropCause 40 rfl) rfl ?_
      refine wr_getR wf_X9_24 (wg_da dt_X9_dropCause 41 rfl) hx0 ?_
      refine wr_iload_n (wg_da dt_X9_dropCause 42 rfl) rfl ?_
      refine wr_iload (wg_da dt_X9_dropCause 43 rfl) rfl ?_
      refine wr_iast (wg_da dt_X9_dropCause 44 rfl) (wg_ty Sc_ok 9 4 0 hx0 rfl (by decide)).2 h (fun s4 h => ?_)
      refine wr_aload_n (wg_da dt_X9_dropCause 45 rfl) rfl ?_
      refine wr_iload_n (wg_da dt_X9_dropCause 46 rfl) rfl ?_
      refine wr_callVv [.int x1] [] (wg_da dt_X9_dropCause 47 rfl) ⟨wq_3_83, wq_3_85, wq_p1_0⟩ hx0 ⟨rfl, by decide⟩ wy_X9_itchAnew (fun q hq => m_X9_itchAnew l E x0 x1 hx0 _ q hq) rfl rfl (Nat.le_of_ble_eq_true rfl) ⟨rfl, rfl, by decide, by decide⟩ h (fun _ s5 h => ?_)
      refine wr_iload (wg_da dt_X9_dropCause 48 rfl) rfl ?_
      exact wr_iret (wg_da dt_X9_dropCause 49 rfl) h
    · refine wr_aload_n (wg_da dt_X9_dropCause 14 rfl) rfl ?_
      refine wr_getR wf_X9_27 (wg_da dt_X9_dropCause 15 rfl) hx0 ?_
      refine wr_iload_n (wg_da dt_X9_dropCause 16 rfl) rfl ?_
      refine wr_iload (wg_da dt_X9_dropCause 17 rfl) rfl ?_
      refine wr_iadd (wg_da dt_X9_dropCause 18 rfl) ?_
      refine wr_iald (wg_da dt_X9_dropCause 19 rfl) (wg_ty Sc_ok 9 5 0 hx0 rfl (by decide)).2 h (fun v6 h => ?_)
      refine wr_iload_n (wg_da dt_X9_dropCause 20 rfl) rfl ?_
      refine wr_icmp_eq 50 (wg_da dt_X9_dropCause 21 rfl) (by decide) h (fun h => ?_) (fun h => ?_)
      · exact wr_wk [true, true, true, true, true, true] (g_X9_dropCause_50 l E (f_X9_dropCause_11  n) x0 x1 x2 x3 x4 x5 σ _ hx0 (fun x0 x1 x2 x3 x4 x5 σ hx0 h => ih x0 x1 x2 x3 x4 x5 σ hx0 h) h)
      · refine wr_aload_n (wg_da dt_X9_dropCause 22 rfl) rfl ?_
        refine wr_iload_n (wg_da dt_X9_dropCause 23 rfl) rfl ?_
        refine wr_iload (wg_da dt_X9_dropCause 24 rfl) rfl ?_
        refine wr_iadd (wg_da dt_X9_dropCause 25 rfl) ?_
        refine wr_iload_n (wg_da dt_X9_dropCause 26 rfl) rfl ?_
        refine wr_iload (wg_da dt_X9_dropCause 27 rfl) rfl ?_
        refine wr_iadd (wg_da dt_X9_dropCause 28 rfl) ?_
        refine wr_callVv [.int (x3 + x5), .int (x3 + x4)] [] (wg_da dt_X9_dropCause 29 rfl) ⟨wq_3_210, wq_3_212, wq_p1_7⟩ hx0 ⟨rfl, by decide⟩ wy_X9_moveRule (fun q hq => m_X9_moveRule l E x0 (x3 + x5) (x3 + x4) hx0 _ q hq) rfl rfl (Nat.le_of_ble_eq_true rfl) ⟨rfl, rfl, by decide, by decide⟩ h (fun _ s7 h => ?_)
        refine wr_iinc (c0 := (1 : Int32)) (wg_da dt_X9_dropCause 30 rfl) rfl (by decide) (by decide) h (fun v8 h => ?_)
        exact wr_wk [true, true, true, true, true, true] (g_X9_dropCause_50 l E (f_X9_dropCause_11  n) x0 x1 x2 x3 v8 x5 s7 _ hx0 (fun x0 x1 x2 x3 x4 x5 σ hx0 h => ih x0 x1 x2 x3 x4 x5 σ hx0 h) h)
set_option maxRecDepth 20000 in
theorem g_X9_dropCause_e (l : Launch) (E : wg_E)  (x0 : Nat) (x1 : Int32) (x2 : Int32) (σ : wg_M) (z : Int32 × wg_M) (hx0 : wg_t Sc x0 = 11) (h : f_X9_dropCause  x0 x1 x2 σ = some z) : wg_G l E Sc "WornWigs$Wigs" cX9_dropCause 6 (some .int) rm_X9_dropCause (some z.1) z.2 0 [some (.ref x0), some (.int x1), some (.int x2), none, none, none] [] σ := by
  refine wr_iload_n (wg_da dt_X9_dropCause 0 rfl) rfl ?_
  refine wr_bipush (8 : Int32) (wg_da dt_X9_dropCause 1 rfl) (by decide) ?_
  refine wr_imul (wg_da dt_X9_dropCause 2 rfl) ?_
  refine wr_let h (fun v1 h => ?_)
  refine wr_istore_n (wg_da dt_X9_dropCause 3 rfl) (by decide) ?_
  refine wr_iconst (0 : Int32) (wg_da dt_X9_dropCause 4 rfl) (by decide) ?_
  refine wr_istore (wg_da dt_X9_dropCause 5 rfl) (by decide) ?_
  refine wr_iconst (0 : Int32) (wg_da dt_X9_dropCause 6 rfl) (by decide) ?_
  refine wr_istore (wg_da dt_X9_dropCause 7 rfl) (by decide) ?_
  exact wr_wk [true, true, true, true, true, true] (g_X9_dropCause_11 l E  _  wg_N x0 x1 x2 v1 (0 : Int32) (0 : Int32) σ hx0 h)
theorem m_X9_dropCause (l : Launch) (E : wg_E) (x0 : Nat) (x1 : Int32) (x2 : Int32) (hx0 : wg_t Sc x0 = 11) (σ : wg_M) (q : Int32 × wg_M) (h : f_X9_dropCause x0 x1 x2 σ = some q) : wg_MG l E Sc yX9_dropCause cX9_dropCause 6 (some .int) rm_X9_dropCause [.ref x0, .int x1, .int x2] σ (some q.1) q.2 :=
  wg_met [.ref x0, .int x1, .int x2] (plainFor_of_name (by decide)) (Nat.le_of_ble_eq_true rfl) (g_X9_dropCause_e l E x0 x1 x2 σ q hx0 h)
abbrev rm_X9_weigh : Room := { frames := 2, cells := 0, slots := 0, locals := 43 }
def tb_X9_weigh : List (Nat × Instr × Nat) := [(0, .iconst 0, 1), (1, .istore_n 3, 1), (2, .iload_n 3, 1), (3, .aload_n 0, 1), (4, .getfield 24, 3), (7, .iload_n 1, 1), (8, .iaload, 1), (9, .if_icmp .ge 39, 3), (12, .iload_n 1, 1), (13, .bipush 8, 2), (15, .imul, 1), (16, .iload_n 3, 1), (17, .iadd, 1), (18, .istore 4, 2), (20, .aload_n 0, 1), (21, .getfield 33, 3), (24, .iload 4, 2), (26, .aload_n 0, 1), (27, .getfield 33, 3), (30, .iload 4, 2), (32, .iaload, 1), (33, .iload_n 2, 1), (34, .iadd, 1), (35, .iconst 1, 1), (36, .bipush 99, 2), (38, .invokestatic 56, 3), (41, .iastore, 1), (42, .iinc 3 1, 3), (45, .goto (-43), 3), (48, .return_, 1)]
theorem dt_X9_weigh : wg_dc cX9_weigh tb_X9_weigh := by unfold wg_dc; decide +kernel
def f_X9_weigh_2  : Nat → Nat → Int32 → Int32 → Int32 → wg_M → Option (Int32 × wg_M)
  | 0, _, _, _, _, _ => none
  | n + 1, x0, x1, x2, x3, σ => wg_ga (wg_n Sc (wg_r Sc x0 4)) (σ (wg_r Sc x0 4)) x1 (fun v1 => if v1 ≤ x3 then (some (0, σ)) else (wg_let ((x1 * (8 : Int32)) + x3) (fun v2 => wg_ga (wg_n Sc (wg_r Sc x0 7)) (σ (wg_r Sc x0 7)) v2 (fun v3 => wg_bd (f_X11_held (v3 + x2) (1 : Int32) (99 : Int32) σ) (fun v4 s5 => wg_sa (wg_n Sc (wg_r Sc x0 7)) s5 (wg_r Sc x0 7) v2 v4 (fun s6 => wg_let (x3 + (1 : Int32)) (fun v7 => f_X9_weigh_2  n x0 x1 x2 v7 s6)))))))
def f_X9_weigh  (x0 : Nat) (x1 : Int32) (x2 : Int32) (σ : wg_M) : Option (Int32 × wg_M) := f_X9_weigh_2  wg_N x0 x1 x2 (0 : Int32) σ
set_option maxRecDepth 20000 in
theorem g_X9_weigh_2 (l : Launch) (E : wg_E)  (z : Int32 × wg_M) : ∀ (n : Nat) (x0 : Nat) (x1 : Int32) (x2 : Int32) (x3 : Int32) (σ : wg_M) (hx0 : wg_t Sc x0 = 11) (h : f_X9_weigh_2  n x0 x1 x2 x3 σ = some z), wg_G l E Sc "WornWigs$Wigs" cX9_weigh 5 none rm_X9_weigh none z.2 2 [some (.ref x0), some (.int x1), some (.int x2), some (.int x3), none] [] σ := by
  intro n
  induction n with
  | zero => intro x0 x1 x2 x3 σ hx0 h; cases h
  | succ n ih =>
    intro x0 x1 x2 x3 σ hx0 h
    refine wr_iload_n (wg_da dt_X9_weigh 2 rfl) rfl ?_
    refine wr_aload_n (wg_da dt_X9_weigh 3 rfl) rfl ?_
    refine wr_getR wf_X9_24 (wg_da dt_X9_weigh 4 rfl) hx0 ?_
    refine wr_iload_n (wg_da dt_X9_weigh 5 rfl) rfl ?_
    refine wr_iald (wg_da dt_X9_weigh 6 rfl) (wg_ty Sc_ok 9 4 0 hx0 rfl (by decide)).2 h (fun v1 h => ?_)
    refine wr_icmp_ge 48 (wg_da dt_X9_weigh 7 rfl) (by decide) h (fun h => ?_) (fun h => ?_)
    · exact wr_vret (wg_da dt_X9_weigh 29 rfl) h
    · refine wr_iload_n (wg_da dt_X9_weigh 8 rfl) rfl ?_
      refine wr_bipush (8 : Int32) (wg_da dt_X9_weigh 9 rfl) (by decide) ?_
      refine wr_imul (wg_da dt_X9_weigh 10 rfl) ?_
      refine wr_iload_n (wg_da dt_X9_weigh 11 rfl) rfl ?_
      refine wr_iadd (wg_da dt_X9_weigh 12 rfl) ?_
      refine wr_let h (fun v2 h => ?_)
      refine wr_istore (wg_da dt_X9_weigh 13 rfl) (by decide) ?_
      refine wr_aload_n (wg_da dt_X9_weigh 14 rfl) rfl ?_
      refine wr_getR wf_X9_33 (wg_da dt_X9_weigh 15 rfl) hx0 ?_
      refine wr_iload (wg_da dt_X9_weigh 16 rfl) rfl ?_
      refine wr_aload_n (wg_da dt_X9_weigh 17 rfl) rfl ?_
      refine wr_getR wf_X9_33 (wg_da dt_X9_weigh 18 rfl) hx0 ?_
      refine wr_iload (wg_da dt_X9_weigh 19 rfl) rfl ?_
      refine wr_iald (wg_da dt_X9_weigh 20 rfl) (wg_ty Sc_ok 9 7 0 hx0 rfl (by decide)).2 h (fun v3 h => ?_)
      refine wr_iload_n (wg_da dt_X9_weigh 21 rfl) rfl ?_
      refine wr_iadd (wg_da dt_X9_weigh 22 rfl) ?_
      refine wr_iconst (1 : Int32) (wg_da dt_X9_weigh 23 rfl) (by decide) ?_
      refine wr_bipush (99 : Int32) (wg_da dt_X9_weigh 24 rfl) (by decide) ?_
      refine wr_callNi [.int (v3 + x2), .int (1 : Int32), .int (99 : Int32)] [.int v2, .ref (wg_r Sc x0 7)] (wg_da dt_X9_weigh 25 rfl) ⟨List.mem_of_getElem? (i := 14) rfl, wq_3_196⟩ wy_X11_held (fun q hq => m_X11_held l E (v3 + x2) (1 : Int32) (99 : Int32)  _ q hq) rfl rfl (Nat.le_of_ble_eq_true rfl) ⟨rfl, rfl, by decide, by decide⟩ h (fun v4 s5 h => ?_)
      refine wr_iast (wg_da dt_X9_weigh 26 rfl) (wg_ty Sc_ok 9 7 0 hx0 rfl (by decide)).2 h (fun s6 h => ?_)
      refine wr_iinc (c0 := (1 : Int32)) (wg_da dt_X9_weigh 27 rfl) rfl (by decide) (by decide) h (fun v7 h => ?_)
      refine wr_goto 2 (wg_da dt_X9_weigh 28 rfl) (by decide) ?_
      exact wr_wk [true, true, true, true, false] (ih x0 x1 x2 v7 s6 hx0 h)
set_option maxRecDepth 20000 in
theorem g_X9_weigh_e (l : Launch) (E : wg_E)  (x0 : Nat) (x1 : Int32) (x2 : Int32) (σ : wg_M) (z : Int32 × wg_M) (hx0 : wg_t Sc x0 = 11) (h : f_X9_weigh  x0 x1 x2 σ = some z) : wg_G l E Sc "WornWigs$Wigs" cX9_weigh 5 none rm_X9_weigh none z.2 0 [some (.ref x0), some (.int x1), some (.int x2), none, none] [] σ := by
  refine wr_iconst (0 : Int32) (wg_da dt_X9_weigh 0 rfl) (by decide) ?_
  refine wr_istore_n (wg_da dt_X9_weigh 1 rfl) (by decide) ?_
  exact wr_wk [true, true, true, true, false] (g_X9_weigh_2 l E  _  wg_N x0 x1 x2 (0 : Int32) σ hx0 h)
theorem m_X9_weigh (l : Launch) (E : wg_E) (x0 : Nat) (x1 : Int32) (x2 : Int32) (hx0 : wg_t Sc x0 = 11) (σ : wg_M) (q : Int32 × wg_M) (h : f_X9_weigh x0 x1 x2 σ = some q) : wg_MG l E Sc yX9_weigh cX9_weigh 5 none rm_X9_weigh [.ref x0, .int x1, .int x2] σ none q.2 :=
  wg_met [.ref x0, .int x1, .int x2] (plainFor_of_name (by decide)) (Nat.le_of_ble_eq_true rfl) (g_X9_weigh_e l E x0 x1 x2 σ q hx0 h)
abbrev rm_X1_doTo : Room := { frames := 3, cells := 0, slots := 0, locals := 74 }
def tb_X1_doTo : List (Nat × Instr × Nat) := [(0, .iload_n 1, 1), (1, .tableswitch 62 0 2 #[27, 36, 44], 27), (28, .aload_n 0, 1), (29, .iload_n 2, 1), (30, .iload_n 3, 1), (31, .invokevirtual 201, 3), (34, .goto 63, 3), (37, .aload_n 0, 1), (38, .iload_n 2, 1), (39, .invokevirtual 204, 3), (42, .goto 55, 3), (45, .aload_n 0, 1), (46, .iconst 4, 1), (47, .iload_n 2, 1), (48, .aload_n 0, 1), (49, .getfield 32, 3), (52, .iload_n 2, 1), (53, .iload_n 3, 1), (54, .invokevirtual 207, 3), (57, .invokevirtual 186, 3), (60, .goto 37, 3), (63, .aload_n 0, 1), (64, .getfield 32, 3), (67, .getfield 99, 3), (70, .iload_n 2, 1), (71, .bipush 99, 2), (73, .aload_n 0, 1), (74, .getfield 32, 3), (77, .getfield 99, 3), (80, .iload_n 2, 1), (81, .iaload, 1), (82, .iload_n 3, 1), (83, .iadd, 1), (84, .invokestatic 210, 3), (87, .iastore, 1), (88, .aload_n 0, 1), (89, .getfield 32, 3), (92, .iload_n 2, 1), (93, .iconst (-1), 1), (94, .invokevirtual 213, 3), (97, .return_, 1)]
theorem dt_X1_doTo : wg_dc cX1_doTo tb_X1_doTo := by unfold wg_dc; decide +kernel
def f_X1_doTo  (x0 : Nat) (x1 : Int32) (x2 : Int32) (x3 : Int32) (σ : wg_M) : Option (Int32 × wg_M) := wg_sw x1 (0) [wg_bd (f_X1_putOn x0 x2 x3 σ) (fun _ s1 => some (0, s1)), wg_bd (f_X1_takeOff x0 x2 σ) (fun _ s2 => some (0, s2)), wg_bd (f_X9_dropCause (wg_r Sc x0 2) x2 x3 σ) (fun v3 s4 => wg_bd (f_X1_note x0 (4 : Int32) x2 v3 s4) (fun _ s5 => some (0, s5)))] (wg_ga (wg_n Sc (wg_r Sc (wg_r Sc x0 2) 1)) (σ (wg_r Sc (wg_r Sc x0 2) 1)) x2 (fun v6 => wg_bd (f_J9_min_7cf53 (99 : Int32) (v6 + x3) σ) (fun v7 s8 => wg_sa (wg_n Sc (wg_r Sc (wg_r Sc x0 2) 1)) s8 (wg_r Sc (wg_r Sc x0 2) 1) x2 v7 (fun s9 => wg_bd (f_X9_weigh (wg_r Sc x0 2) x2 (-1 : Int32) s9) (fun _ s10 => some (0, s10))))))
set_option maxRecDepth 20000 in
theorem g_X1_doTo_e (l : Launch) (E : wg_E)  (x0 : Nat) (x1 : Int32) (x2 : Int32) (x3 : Int32) (σ : wg_M) (z : Int32 × wg_M) (hx0 : wg_t Sc x0 = 3) (h : f_X1_doTo  x0 x1 x2 x3 σ = some z) : wg_G l E Sc "WornWigs$Court" cX1_doTo 4 none rm_X1_doTo none z.2 0 [some (.ref x0), some (.int x1), some (.int x2), some (.int x3)] [] σ := by
  refine wr_iload_n (wg_da dt_X1_doTo 0 rfl) rfl ?_
  refine wr_tsw [28, 37, 45] 63 (wg_da dt_X1_doTo 1 rfl) rfl rfl (by decide) (by decide) h (wg_all_c (fun h => ?_) (wg_all_c (fun h => ?_) (wg_all_c (fun h => ?_) (wg_all_n)))) (fun h => ?_)
  · refine wr_aload_n (wg_da dt_X1_doTo 2 rfl) rfl ?_
    refine wr_iload_n (wg_da dt_X1_doTo 3 rfl) rfl ?_
    refine wr_iload_n (wg_da dt_X1_doTo 4 rfl) rfl ?_
    refine wr_callVv [.int x2, .int x3] [] (wg_da dt_X1_doTo 5 rfl) ⟨wq_4_4, wq_4_6, wq_p1_9⟩ hx0 ⟨rfl, by decide⟩ wy_X1_putOn (fun q hq => m_X1_putOn l E x0 x2 x3 hx0 _ q hq) rfl rfl (Nat.le_of_ble_eq_true rfl) ⟨rfl, rfl, by decide, by decide⟩ h (fun _ s1 h => ?_)
    refine wr_goto 97 (wg_da dt_X1_doTo 6 rfl) (by decide) ?_
    exact wr_vret (wg_da dt_X1_doTo 40 rfl) h
  · refine wr_aload_n (wg_da dt_X1_doTo 7 rfl) rfl ?_
    refine wr_iload_n (wg_da dt_X1_doTo 8 rfl) rfl ?_
    refine wr_callVv [.int x2] [] (wg_da dt_X1_doTo 9 rfl) ⟨wq_4_8, wq_4_10, wq_p1_10⟩ hx0 ⟨rfl, by decide⟩ wy_X1_takeOff (fun q hq => m_X1_takeOff l E x0 x2 hx0 _ q hq) rfl rfl (Nat.le_of_ble_eq_true rfl) ⟨rfl, rfl, by decide, by decide⟩ h (fun _ s2 h => ?_)
    refine wr_goto 97 (wg_da dt_X1_doTo 10 rfl) (by decide) ?_
    exact wr_vret (wg_da dt_X1_doTo 40 rfl) h
  · refine wr_aload_n (wg_da dt_X1_doTo 11 rfl) rfl ?_
    refine wr_iconst (4 : Int32) (wg_da dt_X1_doTo 12 rfl) (by decide) ?_
    refine wr_iload_n (wg_da dt_X1_doTo 13 rfl) rfl ?_
    refine wr_aload_n (wg_da dt_X1_doTo 14 rfl) rfl ?_
    refine wr_getR wf_X1_32 (wg_da dt_X1_doTo 15 rfl) hx0 ?_
    refine wr_iload_n (wg_da dt_X1_doTo 16 rfl) rfl ?_
    refine wr_iload_n (wg_da dt_X1_doTo 17 rfl) rfl ?_
    refine wr_callVi [.int x2, .int x3] [.int x2, .int (4 : Int32), .ref x0] (wg_da dt_X1_doTo 18 rfl) ⟨wq_4_12, wq_4_13, wq_4_14⟩ (wg_ty Sc_ok 1 2 11 hx0 rfl (by decide)).2 ⟨rfl, by decide⟩ wy_X9_dropCause (fun q hq => m_X9_dropCause l E (wg_r Sc x0 2) x2 x3 (wg_ty Sc_ok 1 2 11 hx0 rfl (by decide)).2 _ q hq) rfl rfl (Nat.le_of_ble_eq_true rfl) ⟨rfl, rfl, by decide, by decide⟩ h (fun v3 s4 h => ?_)
    refine wr_callVv [.int (4 : Int32), .int x2, .int v3] [] (wg_da dt_X1_doTo 19 rfl) ⟨wq_3_215, wq_3_217, wq_p1_8⟩ hx0 ⟨rfl, by decide⟩ wy_X1_note (fun q hq => m_X1_note l E x0 (4 : Int32) x2 v3 hx0 _ q hq) rfl rfl (Nat.le_of_ble_eq_true rfl) ⟨rfl, rfl, by decide, by decide⟩ h (fun _ s5 h => ?_)
    refine wr_goto 97 (wg_da dt_X1_doTo 20 rfl) (by decide) ?_
    exact wr_vret (wg_da dt_X1_doTo 40 rfl) h
  · refine wr_aload_n (wg_da dt_X1_doTo 21 rfl) rfl ?_
    refine wr_getR wf_X1_32 (wg_da dt_X1_doTo 22 rfl) hx0 ?_
    refine wr_getR wf_X1_99 (wg_da dt_X1_doTo 23 rfl) (wg_ty Sc_ok 1 2 11 hx0 rfl (by decide)).2 ?_
    refine wr_iload_n (wg_da dt_X1_doTo 24 rfl) rfl ?_
    refine wr_bipush (99 : Int32) (wg_da dt_X1_doTo 25 rfl) (by decide) ?_
    refine wr_aload_n (wg_da dt_X1_doTo 26 rfl) rfl ?_
    refine wr_getR wf_X1_32 (wg_da dt_X1_doTo 27 rfl) hx0 ?_
    refine wr_getR wf_X1_99 (wg_da dt_X1_doTo 28 rfl) (wg_ty Sc_ok 1 2 11 hx0 rfl (by decide)).2 ?_
    refine wr_iload_n (wg_da dt_X1_doTo 29 rfl) rfl ?_
    refine wr_iald (wg_da dt_X1_doTo 30 rfl) (wg_ty Sc_ok 9 1 0 (wg_ty Sc_ok 1 2 11 hx0 rfl (by decide)).2 rfl (by decide)).2 h (fun v6 h => ?_)
    refine wr_iload_n (wg_da dt_X1_doTo 31 rfl) rfl ?_
    refine wr_iadd (wg_da dt_X1_doTo 32 rfl) ?_
    refine wr_callSi [.int (99 : Int32), .int (v6 + x3)] [.int x2, .ref (wg_r Sc (wg_r Sc x0 2) 1)] (wg_da dt_X1_doTo 33 rfl) ⟨wq_4_16, wq_3_98⟩ wy_J9_min_7cf53 (fun q hq => m_J9_min_7cf53 l E (99 : Int32) (v6 + x3)  _ q hq) rfl rfl (Nat.le_of_ble_eq_true rfl) ⟨rfl, rfl, by decide, by decide⟩ h (fun v7 s8 h => ?_)
    refine wr_iast (wg_da dt_X1_doTo 34 rfl) (wg_ty Sc_ok 9 1 0 (wg_ty Sc_ok 1 2 11 hx0 rfl (by decide)).2 rfl (by decide)).2 h (fun s9 h => ?_)
    refine wr_aload_n (wg_da dt_X1_doTo 35 rfl) rfl ?_
    refine wr_getR wf_X1_32 (wg_da dt_X1_doTo 36 rfl) hx0 ?_
    refine wr_iload_n (wg_da dt_X1_doTo 37 rfl) rfl ?_
    refine wr_iconst (-1 : Int32) (wg_da dt_X1_doTo 38 rfl) (by decide) ?_
    refine wr_callVv [.int x2, .int (-1 : Int32)] [] (wg_da dt_X1_doTo 39 rfl) ⟨wq_4_17, wq_4_18, wq_4_19⟩ (wg_ty Sc_ok 1 2 11 hx0 rfl (by decide)).2 ⟨rfl, by decide⟩ wy_X9_weigh (fun q hq => m_X9_weigh l E (wg_r Sc x0 2) x2 (-1 : Int32) (wg_ty Sc_ok 1 2 11 hx0 rfl (by decide)).2 _ q hq) rfl rfl (Nat.le_of_ble_eq_true rfl) ⟨rfl, rfl, by decide, by decide⟩ h (fun _ s10 h => ?_)
    exact wr_vret (wg_da dt_X1_doTo 40 rfl) h
theorem m_X1_doTo (l : Launch) (E : wg_E) (x0 : Nat) (x1 : Int32) (x2 : Int32) (x3 : Int32) (hx0 : wg_t Sc x0 = 3) (σ : wg_M) (q : Int32 × wg_M) (h : f_X1_doTo x0 x1 x2 x3 σ = some q) : wg_MG l E Sc yX1_doTo cX1_doTo 4 none rm_X1_doTo [.ref x0, .int x1, .int x2, .int x3] σ none q.2 :=
  wg_met [.ref x0, .int x1, .int x2, .int x3] (plainFor_of_name (by decide)) (Nat.le_of_ble_eq_true rfl) (g_X1_doTo_e l E x0 x1 x2 x3 σ q hx0 h)
abbrev rm_X1_growsOldAndDies : Room := { frames := 4, cells := 0, slots := 0, locals := 93 }
def tb_X1_growsOldAndDies : List (Nat × Instr × Nat) := [(0, .aload_n 0, 1), (1, .getfield 37, 3), (4, .getfield 83, 3), (7, .iload_n 1, 1), (8, .bipush 120, 2), (10, .aload_n 0, 1), (11, .getfield 37, 3), (14, .getfield 83, 3), (17, .iload_n 1, 1), (18, .iaload, 1), (19, .iconst 1, 1), (20, .iadd, 1), (21, .invokestatic 210, 3), (24, .iastore, 1), (25, .aload_n 0, 1), (26, .iload_n 1, 1), (27, .invokevirtual 256, 3), (30, .istore_n 2, 1), (31, .aload_n 0, 1), (32, .getfield 47, 3), (35, .ifCond .eq 19, 3), (38, .iload_n 2, 1), (39, .sipush 500, 3), (42, .if_icmp .lt 7, 3), (45, .iconst 1, 1), (46, .goto 4, 3), (49, .iconst 0, 1), (50, .istore_n 3, 1), (51, .goto 27, 3), (54, .iload_n 2, 1), (55, .ifCond .le 21, 3), (58, .aload_n 0, 1), (59, .getfield 27, 3), (62, .sipush 1000, 3), (65, .invokevirtual 259, 3), (68, .iload_n 2, 1), (69, .if_icmp .ge 7, 3), (72, .iconst 1, 1), (73, .goto 4, 3), (76, .iconst 0, 1), (77, .istore_n 3, 1), (78, .iload_n 3, 1), (79, .ifCond .ne 17, 3), (82, .aload_n 0, 1), (83, .getfield 37, 3), (86, .getfield 83, 3), (89, .iload_n 1, 1), (90, .iaload, 1), (91, .bipush 120, 2), (93, .if_icmp .ne 7, 3), (96, .iconst 1, 1), (97, .goto 4, 3), (100, .iconst 0, 1), (101, .ireturn, 1)]
theorem dt_X1_growsOldAndDies : wg_dc cX1_growsOldAndDies tb_X1_growsOldAndDies := by unfold wg_dc; decide +kernel
def f_X1_growsOldAndDies_96   (σ : wg_M) : Option (Int32 × wg_M) := some ((1 : Int32), σ)
def f_X1_growsOldAndDies_78  (x0 : Nat) (x1 : Int32) (x3 : Int32) (σ : wg_M) : Option (Int32 × wg_M) := if x3 = 0 then (wg_ga (wg_n Sc (wg_r Sc (wg_r Sc x0 3) 0)) (σ (wg_r Sc (wg_r Sc x0 3) 0)) x1 (fun v1 => if v1 = (120 : Int32) then (f_X1_growsOldAndDies_96   σ) else (some ((0 : Int32), σ)))) else (f_X1_growsOldAndDies_96   σ)
def f_X1_growsOldAndDies_50  (x0 : Nat) (x1 : Int32) (t0 : Int32) (σ : wg_M) : Option (Int32 × wg_M) := f_X1_growsOldAndDies_78  x0 x1 t0 σ
def f_X1_growsOldAndDies_77  (x0 : Nat) (x1 : Int32) (t0 : Int32) (σ : wg_M) : Option (Int32 × wg_M) := f_X1_growsOldAndDies_78  x0 x1 t0 σ
def f_X1_growsOldAndDies_76  (x0 : Nat) (x1 : Int32) (σ : wg_M) : Option (Int32 × wg_M) := f_X1_growsOldAndDies_77  x0 x1 (0 : Int32) σ
def f_X1_growsOldAndDies  (x0 : Nat) (x1 : Int32) (σ : wg_M) : Option (Int32 × wg_M) := wg_ga (wg_n Sc (wg_r Sc (wg_r Sc x0 3) 0)) (σ (wg_r Sc (wg_r Sc x0 3) 0)) x1 (fun v1 => wg_bd (f_J9_min_7cf53 (120 : Int32) (v1 + (1 : Int32)) σ) (fun v2 s3 => wg_sa (wg_n Sc (wg_r Sc (wg_r Sc x0 3) 0)) s3 (wg_r Sc (wg_r Sc x0 3) 0) x1 v2 (fun s4 => wg_bd (f_X1_diesOf x0 x1 s4) (fun v5 s6 => if (s6 x0 6) = 0 then (if v5 ≤ 0 then (f_X1_growsOldAndDies_76  x0 x1 s6) else (wg_bd (f_X0_draw (wg_r Sc x0 1) (1000 : Int32) s6) (fun v7 s8 => if v5 ≤ v7 then (f_X1_growsOldAndDies_76  x0 x1 s8) else (f_X1_growsOldAndDies_77  x0 x1 (1 : Int32) s8)))) else (if v5 < (500 : Int32) then (f_X1_growsOldAndDies_50  x0 x1 (0 : Int32) s6) else (f_X1_growsOldAndDies_50  x0 x1 (1 : Int32) s6))))))
set_option maxRecDepth 20000 in
theorem g_X1_growsOldAndDies_96 (l : Launch) (E : wg_E)   (σ : wg_M) (z : Int32 × wg_M)  (h : f_X1_growsOldAndDies_96   σ = some z) : wg_G l E Sc "WornWigs$Court" cX1_growsOldAndDies 4 (some .boolean) rm_X1_growsOldAndDies (some z.1) z.2 96 [none, none, none, none] [] σ := by
  refine wr_iconst (1 : Int32) (wg_da dt_X1_growsOldAndDies 50 rfl) (by decide) ?_
  refine wr_goto 101 (wg_da dt_X1_growsOldAndDies 51 rfl) (by decide) ?_
  exact wr_zret1 (wg_da dt_X1_growsOldAndDies 53 rfl) h
set_option maxRecDepth 20000 in
theorem g_X1_growsOldAndDies_78 (l : Launch) (E : wg_E)  (x0 : Nat) (x1 : Int32) (x3 : Int32) (σ : wg_M) (z : Int32 × wg_M) (hx0 : wg_t Sc x0 = 3) (h : f_X1_growsOldAndDies_78  x0 x1 x3 σ = some z) : wg_G l E Sc "WornWigs$Court" cX1_growsOldAndDies 4 (some .boolean) rm_X1_growsOldAndDies (some z.1) z.2 78 [some (.ref x0), some (.int x1), none, some (.int x3)] [] σ := by
  refine wr_iload_n (wg_da dt_X1_growsOldAndDies 41 rfl) rfl ?_
  refine wr_if_ne 96 (wg_da dt_X1_growsOldAndDies 42 rfl) (by decide) h (fun h => ?_) (fun h => ?_)
  · refine wr_aload_n (wg_da dt_X1_growsOldAndDies 43 rfl) rfl ?_
    refine wr_getR wf_X1_37 (wg_da dt_X1_growsOldAndDies 44 rfl) hx0 ?_
    refine wr_getR wf_X1_83 (wg_da dt_X1_growsOldAndDies 45 rfl) (wg_ty Sc_ok 1 3 4 hx0 rfl (by decide)).2 ?_
    refine wr_iload_n (wg_da dt_X1_growsOldAndDies 46 rfl) rfl ?_
    refine wr_iald (wg_da dt_X1_growsOldAndDies 47 rfl) (wg_ty Sc_ok 2 0 0 (wg_ty Sc_ok 1 3 4 hx0 rfl (by decide)).2 rfl (by decide)).2 h (fun v1 h => ?_)
    refine wr_bipush (120 : Int32) (wg_da dt_X1_growsOldAndDies 48 rfl) (by decide) ?_
    refine wr_icmp_ne 100 (wg_da dt_X1_growsOldAndDies 49 rfl) (by decide) h (fun h => ?_) (fun h => ?_)
    · exact wr_wk [false, false, false, false] (g_X1_growsOldAndDies_96 l E   σ _   h)
    · refine wr_iconst (0 : Int32) (wg_da dt_X1_growsOldAndDies 52 rfl) (by decide) ?_
      exact wr_zret0 (wg_da dt_X1_growsOldAndDies 53 rfl) h
  · exact wr_wk [false, false, false, false] (g_X1_growsOldAndDies_96 l E   σ _   h)
set_option maxRecDepth 20000 in
theorem g_X1_growsOldAndDies_50 (l : Launch) (E : wg_E)  (x0 : Nat) (x1 : Int32) (t0 : Int32) (σ : wg_M) (z : Int32 × wg_M) (hx0 : wg_t Sc x0 = 3) (h : f_X1_growsOldAndDies_50  x0 x1 t0 σ = some z) : wg_G l E Sc "WornWigs$Court" cX1_growsOldAndDies 4 (some .boolean) rm_X1_growsOldAndDies (some z.1) z.2 50 [some (.ref x0), some (.int x1), none, none] [.int t0] σ := by
  refine wr_istore_n (wg_da dt_X1_growsOldAndDies 27 rfl) (by decide) ?_
  refine wr_goto 78 (wg_da dt_X1_growsOldAndDies 28 rfl) (by decide) ?_
  exact wr_wk [true, true, false, true] (g_X1_growsOldAndDies_78 l E  x0 x1 t0 σ _ hx0  h)
set_option maxRecDepth 20000 in
theorem g_X1_growsOldAndDies_77 (l : Launch) (E : wg_E)  (x0 : Nat) (x1 : Int32) (t0 : Int32) (σ : wg_M) (z : Int32 × wg_M) (hx0 : wg_t Sc x0 = 3) (h : f_X1_growsOldAndDies_77  x0 x1 t0 σ = some z) : wg_G l E Sc "WornWigs$Court" cX1_growsOldAndDies 4 (some .boolean) rm_X1_growsOldAndDies (some z.1) z.2 77 [some (.ref x0), some (.int x1), none, none] [.int t0] σ := by
  refine wr_istore_n (wg_da dt_X1_growsOldAndDies 40 rfl) (by decide) ?_
  exact wr_wk [true, true, false, true] (g_X1_growsOldAndDies_78 l E  x0 x1 t0 σ _ hx0  h)
set_option maxRecDepth 20000 in
theorem g_X1_growsOldAndDies_76 (l : Launch) (E : wg_E)  (x0 : Nat) (x1 : Int32) (σ : wg_M) (z : Int32 × wg_M) (hx0 : wg_t Sc x0 = 3) (h : f_X1_growsOldAndDies_76  x0 x1 σ = some z) : wg_G l E Sc "WornWigs$Court" cX1_growsOldAndDies 4 (some .boolean) rm_X1_growsOldAndDies (some z.1) z.2 76 [some (.ref x0), some (.int x1), none, none] [] σ := by
  refine wr_iconst (0 : Int32) (wg_da dt_X1_growsOldAndDies 39 rfl) (by decide) ?_
  exact wr_wk [true, true, false, false] (g_X1_growsOldAndDies_77 l E  x0 x1 (0 : Int32) σ _ hx0  h)
set_option maxRecDepth 20000 in
theorem g_X1_growsOldAndDies_e (l : Launch) (E : wg_E)  (x0 : Nat) (x1 : Int32) (σ : wg_M) (z : Int32 × wg_M) (hx0 : wg_t Sc x0 = 3) (h : f_X1_growsOldAndDies  x0 x1 σ = some z) : wg_G l E Sc "WornWigs$Court" cX1_growsOldAndDies 4 (some .boolean) rm_X1_growsOldAndDies (some z.1) z.2 0 [some (.ref x0), some (.int x1), none, none] [] σ := by
  refine wr_aload_n (wg_da dt_X1_growsOldAndDies 0 rfl) rfl ?_
  refine wr_getR wf_X1_37 (wg_da dt_X1_growsOldAndDies 1 rfl) hx0 ?_
  refine wr_getR wf_X1_83 (wg_da dt_X1_growsOldAndDies 2 rfl) (wg_ty Sc_ok 1 3 4 hx0 rfl (by decide)).2 ?_
  refine wr_iload_n (wg_da dt_X1_growsOldAndDies 3 rfl) rfl ?_
  refine wr_bipush (120 : Int32) (wg_da dt_X1_growsOldAndDies 4 rfl) (by decide) ?_
  refine wr_aload_n (wg_da dt_X1_growsOldAndDies 5 rfl) rfl ?_
  refine wr_getR wf_X1_37 (wg_da dt_X1_growsOldAndDies 6 rfl) hx0 ?_
  refine wr_getR wf_X1_83 (wg_da dt_X1_growsOldAndDies 7 rfl) (wg_ty Sc_ok 1 3 4 hx0 rfl (by decide)).2 ?_
  refine wr_iload_n (wg_da dt_X1_growsOldAndDies 8 rfl) rfl ?_
  refine wr_iald (wg_da dt_X1_growsOldAndDies 9 rfl) (wg_ty Sc_ok 2 0 0 (wg_ty Sc_ok 1 3 4 hx0 rfl (by decide)).2 rfl (by decide)).2 h (fun v1 h => ?_)
  refine wr_iconst (1 : Int32) (wg_da dt_X1_growsOldAndDies 10 rfl) (by decide) ?_
  refine wr_iadd (wg_da dt_X1_growsOldAndDies 11 rfl) ?_
  refine wr_callSi [.int (120 : Int32), .int (v1 + (1 : Int32))] [.int x1, .ref (wg_r Sc (wg_r Sc x0 3) 0)] (wg_da dt_X1_growsOldAndDies 12 rfl) ⟨wq_4_16, wq_3_98⟩ wy_J9_min_7cf53 (fun q hq => m_J9_min_7cf53 l E (120 : Int32) (v1 + (1 : Int32))  _ q hq) rfl rfl (Nat.le_of_ble_eq_true rfl) ⟨rfl, rfl, by decide, by decide⟩ h (fun v2 s3 h => ?_)
  refine wr_iast (wg_da dt_X1_growsOldAndDies 13 rfl) (wg_ty Sc_ok 2 0 0 (wg_ty Sc_ok 1 3 4 hx0 rfl (by decide)).2 rfl (by decide)).2 h (fun s4 h => ?_)
  refine wr_aload_n (wg_da dt_X1_growsOldAndDies 14 rfl) rfl ?_
  refine wr_iload_n (wg_da dt_X1_growsOldAndDies 15 rfl) rfl ?_
  refine wr_callVi [.int x1] [] (wg_da dt_X1_growsOldAndDies 16 rfl) ⟨wq_4_38, wq_4_39, wq_4_40⟩ hx0 ⟨rfl, by decide⟩ wy_X1_diesOf (fun q hq => m_X1_diesOf l E x0 x1 hx0 _ q hq) rfl rfl (Nat.le_of_ble_eq_true rfl) ⟨rfl, rfl, by decide, by decide⟩ h (fun v5 s6 h => ?_)
  refine wr_istore_n (wg_da dt_X1_growsOldAndDies 17 rfl) (by decide) ?_
  refine wr_aload_n (wg_da dt_X1_growsOldAndDies 18 rfl) rfl ?_
  refine wr_getI wf_X1_47 (wg_da dt_X1_growsOldAndDies 19 rfl) hx0 ?_
  refine wr_if_eq 54 (wg_da dt_X1_growsOldAndDies 20 rfl) (by decide) h (fun h => ?_) (fun h => ?_)
  · refine wr_iload_n (wg_da dt_X1_growsOldAndDies 29 rfl) rfl ?_
    refine wr_if_le 76 (wg_da dt_X1_growsOldAndDies 30 rfl) (by decide) h (fun h => ?_) (fun h => ?_)
    · exact wr_wk [true, true, false, false] (g_X1_growsOldAndDies_76 l E  x0 x1 s6 _ hx0  h)
    · refine wr_aload_n (wg_da dt_X1_growsOldAndDies 31 rfl) rfl ?_
      refine wr_getR wf_X1_27 (wg_da dt_X1_growsOldAndDies 32 rfl) hx0 ?_
      refine wr_sipush (1000 : Int32) (wg_da dt_X1_growsOldAndDies 33 rfl) (by decide) ?_
      refine wr_callVi [.int (1000 : Int32)] [] (wg_da dt_X1_growsOldAndDies 34 rfl) ⟨wq_4_43, wq_4_44, wq_4_45⟩ (wg_ty Sc_ok 1 1 2 hx0 rfl (by decide)).2 ⟨rfl, by decide⟩ wy_X0_draw (fun q hq => m_X0_draw l E (wg_r Sc x0 1) (1000 : Int32) (wg_ty Sc_ok 1 1 2 hx0 rfl (by decide)).2 _ q hq) rfl rfl (Nat.le_of_ble_eq_true rfl) ⟨rfl, rfl, by decide, by decide⟩ h (fun v7 s8 h => ?_)
      refine wr_iload_n (wg_da dt_X1_growsOldAndDies 35 rfl) rfl ?_
      refine wr_icmp_ge 76 (wg_da dt_X1_growsOldAndDies 36 rfl) (by decide) h (fun h => ?_) (fun h => ?_)
      · exact wr_wk [true, true, false, false] (g_X1_growsOldAndDies_76 l E  x0 x1 s8 _ hx0  h)
      · refine wr_iconst (1 : Int32) (wg_da dt_X1_growsOldAndDies 37 rfl) (by decide) ?_
        refine wr_goto 77 (wg_da dt_X1_growsOldAndDies 38 rfl) (by decide) ?_
        exact wr_wk [true, true, false, false] (g_X1_growsOldAndDies_77 l E  x0 x1 (1 : Int32) s8 _ hx0  h)
  · refine wr_iload_n (wg_da dt_X1_growsOldAndDies 21 rfl) rfl ?_
    refine wr_sipush (500 : Int32) (wg_da dt_X1_growsOldAndDies 22 rfl) (by decide) ?_
    refine wr_icmp_lt 49 (wg_da dt_X1_growsOldAndDies 23 rfl) (by decide) h (fun h => ?_) (fun h => ?_)
    · refine wr_iconst (0 : Int32) (wg_da dt_X1_growsOldAndDies 26 rfl) (by decide) ?_
      exact wr_wk [true, true, false, false] (g_X1_growsOldAndDies_50 l E  x0 x1 (0 : Int32) s6 _ hx0  h)
    · refine wr_iconst (1 : Int32) (wg_da dt_X1_growsOldAndDies 24 rfl) (by decide) ?_
      refine wr_goto 50 (wg_da dt_X1_growsOldAndDies 25 rfl) (by decide) ?_
      exact wr_wk [true, true, false, false] (g_X1_growsOldAndDies_50 l E  x0 x1 (1 : Int32) s6 _ hx0  h)
theorem m_X1_growsOldAndDies (l : Launch) (E : wg_E) (x0 : Nat) (x1 : Int32) (hx0 : wg_t Sc x0 = 3) (σ : wg_M) (q : Int32 × wg_M) (h : f_X1_growsOldAndDies x0 x1 σ = some q) : wg_MG l E Sc yX1_growsOldAndDies cX1_growsOldAndDies 4 (some .boolean) rm_X1_growsOldAndDies [.ref x0, .int x1] σ (some q.1) q.2 :=
  wg_met [.ref x0, .int x1] (plainFor_of_name (by decide)) (Nat.le_of_ble_eq_true rfl) (g_X1_growsOldAndDies_e l E x0 x1 σ q hx0 h)
abbrev rm_X2_youngestBare : Room := { frames := 0, cells := 0, slots := 0, locals := 0 }
def tb_X2_youngestBare : List (Nat × Instr × Nat) := [(0, .iconst (-1), 1), (1, .istore_n 2, 1), (2, .iconst 0, 1), (3, .istore_n 3, 1), (4, .iload_n 3, 1), (5, .aload_n 0, 1), (6, .getfield 31, 3), (9, .if_icmp .ge 70, 3), (12, .aload_n 0, 1), (13, .getfield 21, 3), (16, .iload_n 3, 1), (17, .iaload, 1), (18, .ifCond .ne 25, 3), (21, .aload_n 0, 1), (22, .getfield 18, 3), (25, .iload_n 3, 1), (26, .iaload, 1), (27, .iconst (-1), 1), (28, .if_icmp .ne 15, 3), (31, .iload_n 1, 1), (32, .iload_n 3, 1), (33, .ishr, 1), (34, .iconst 1, 1), (35, .iand, 1), (36, .ifCond .ne 7, 3), (39, .iconst 1, 1), (40, .goto 4, 3), (43, .iconst 0, 1), (44, .istore 4, 2), (46, .iload 4, 2), (48, .ifCond .eq 25, 3), (51, .iload_n 2, 1), (52, .iconst (-1), 1), (53, .if_icmp .eq 18, 3), (56, .aload_n 0, 1), (57, .getfield 9, 3), (60, .iload_n 3, 1), (61, .iaload, 1), (62, .aload_n 0, 1), (63, .getfield 9, 3), (66, .iload_n 2, 1), (67, .iaload, 1), (68, .if_icmp .ge 5, 3), (71, .iload_n 3, 1), (72, .istore_n 2, 1), (73, .iinc 3 1, 3), (76, .goto (-72), 3), (79, .iload_n 2, 1), (80, .ireturn, 1)]
theorem dt_X2_youngestBare : wg_dc cX2_youngestBare tb_X2_youngestBare := by unfold wg_dc; decide +kernel
def f_X2_youngestBare_73 (k4 : Nat → Int32 → Int32 → Int32 → wg_M → Option (Int32 × wg_M)) (x0 : Nat) (x1 : Int32) (x2 : Int32) (x3 : Int32) (σ : wg_M) : Option (Int32 × wg_M) := wg_let (x3 + (1 : Int32)) (fun v1 => k4 x0 x1 x2 v1 σ)
def f_X2_youngestBare_71 (k4 : Nat → Int32 → Int32 → Int32 → wg_M → Option (Int32 × wg_M)) (x0 : Nat) (x1 : Int32) (x3 : Int32) (σ : wg_M) : Option (Int32 × wg_M) := f_X2_youngestBare_73 k4 x0 x1 x3 x3 σ
def f_X2_youngestBare_44 (k4 : Nat → Int32 → Int32 → Int32 → wg_M → Option (Int32 × wg_M)) (x0 : Nat) (x1 : Int32) (x2 : Int32) (x3 : Int32) (t0 : Int32) (σ : wg_M) : Option (Int32 × wg_M) := if t0 = 0 then (f_X2_youngestBare_73 k4 x0 x1 x2 x3 σ) else (if x2 = (-1 : Int32) then (f_X2_youngestBare_71 k4 x0 x1 x3 σ) else (wg_ga (wg_n Sc (wg_r Sc x0 0)) (σ (wg_r Sc x0 0)) x3 (fun v1 => wg_ga (wg_n Sc (wg_r Sc x0 0)) (σ (wg_r Sc x0 0)) x2 (fun v2 => if v2 ≤ v1 then (f_X2_youngestBare_73 k4 x0 x1 x2 x3 σ) else (f_X2_youngestBare_71 k4 x0 x1 x3 σ)))))
def f_X2_youngestBare_43 (k4 : Nat → Int32 → Int32 → Int32 → wg_M → Option (Int32 × wg_M)) (x0 : Nat) (x1 : Int32) (x2 : Int32) (x3 : Int32) (σ : wg_M) : Option (Int32 × wg_M) := f_X2_youngestBare_44 k4 x0 x1 x2 x3 (0 : Int32) σ
def f_X2_youngestBare_4  : Nat → Nat → Int32 → Int32 → Int32 → wg_M → Option (Int32 × wg_M)
  | 0, _, _, _, _, _ => none
  | n + 1, x0, x1, x2, x3, σ => if (σ x0 5) ≤ x3 then (some (x2, σ)) else (wg_ga (wg_n Sc (wg_r Sc x0 3)) (σ (wg_r Sc x0 3)) x3 (fun v1 => if v1 = 0 then (wg_ga (wg_n Sc (wg_r Sc x0 2)) (σ (wg_r Sc x0 2)) x3 (fun v2 => if v2 = (-1 : Int32) then (if ((x1 >>> (x3 &&& 31)) &&& (1 : Int32)) = 0 then (f_X2_youngestBare_44 (f_X2_youngestBare_4  n) x0 x1 x2 x3 (1 : Int32) σ) else (f_X2_youngestBare_43 (f_X2_youngestBare_4  n) x0 x1 x2 x3 σ)) else (f_X2_youngestBare_43 (f_X2_youngestBare_4  n) x0 x1 x2 x3 σ))) else (f_X2_youngestBare_43 (f_X2_youngestBare_4  n) x0 x1 x2 x3 σ)))
def f_X2_youngestBare  (x0 : Nat) (x1 : Int32) (σ : wg_M) : Option (Int32 × wg_M) := f_X2_youngestBare_4  wg_N x0 x1 (-1 : Int32) (0 : Int32) σ
set_option maxRecDepth 20000 in
theorem g_X2_youngestBare_73 (l : Launch) (E : wg_E) (k4 : Nat → Int32 → Int32 → Int32 → wg_M → Option (Int32 × wg_M)) (x0 : Nat) (x1 : Int32) (x2 : Int32) (x3 : Int32) (σ : wg_M) (z : Int32 × wg_M) (hx0 : wg_t Sc x0 = 4) (hk4 : ∀ (x0 : Nat) (x1 : Int32) (x2 : Int32) (x3 : Int32) (σ : wg_M), wg_t Sc x0 = 4 → k4 x0 x1 x2 x3 σ = some z → wg_G l E Sc "WornWigs$Judges" cX2_youngestBare 5 (some .int) rm_X2_youngestBare (some z.1) z.2 4 [some (.ref x0), some (.int x1), some (.int x2), some (.int x3), none] [] σ) (h : f_X2_youngestBare_73 k4 x0 x1 x2 x3 σ = some z) : wg_G l E Sc "WornWigs$Judges" cX2_youngestBare 5 (some .int) rm_X2_youngestBare (some z.1) z.2 73 [some (.ref x0), some (.int x1), some (.int x2), some (.int x3), none] [] σ := by
  refine wr_iinc (c0 := (1 : Int32)) (wg_da dt_X2_youngestBare 45 rfl) rfl (by decide) (by decide) h (fun v1 h => ?_)
  refine wr_goto 4 (wg_da dt_X2_youngestBare 46 rfl) (by decide) ?_
  exact wr_wk [true, true, true, true, false] (hk4 x0 x1 x2 v1 σ hx0 h)
set_option maxRecDepth 20000 in
theorem g_X2_youngestBare_71 (l : Launch) (E : wg_E) (k4 : Nat → Int32 → Int32 → Int32 → wg_M → Option (Int32 × wg_M)) (x0 : Nat) (x1 : Int32) (x3 : Int32) (σ : wg_M) (z : Int32 × wg_M) (hx0 : wg_t Sc x0 = 4) (hk4 : ∀ (x0 : Nat) (x1 : Int32) (x2 : Int32) (x3 : Int32) (σ : wg_M), wg_t Sc x0 = 4 → k4 x0 x1 x2 x3 σ = some z → wg_G l E Sc "WornWigs$Judges" cX2_youngestBare 5 (some .int) rm_X2_youngestBare (some z.1) z.2 4 [some (.ref x0), some (.int x1), some (.int x2), some (.int x3), none] [] σ) (h : f_X2_youngestBare_71 k4 x0 x1 x3 σ = some z) : wg_G l E Sc "WornWigs$Judges" cX2_youngestBare 5 (some .int) rm_X2_youngestBare (some z.1) z.2 71 [some (.ref x0), some (.int x1), none, some (.int x3), none] [] σ := by
  refine wr_iload_n (wg_da dt_X2_youngestBare 43 rfl) rfl ?_
  refine wr_istore_n (wg_da dt_X2_youngestBare 44 rfl) (by decide) ?_
  exact wr_wk [true, true, true, true, false] (g_X2_youngestBare_73 l E k4 x0 x1 x3 x3 σ _ hx0 hk4 h)
set_option maxRecDepth 20000 in
theorem g_X2_youngestBare_44 (l : Launch) (E : wg_E) (k4 : Nat → Int32 → Int32 → Int32 → wg_M → Option (Int32 × wg_M)) (x0 : Nat) (x1 : Int32) (x2 : Int32) (x3 : Int32) (t0 : Int32) (σ : wg_M) (z : Int32 × wg_M) (hx0 : wg_t Sc x0 = 4) (hk4 : ∀ (x0 : Nat) (x1 : Int32) (x2 : Int32) (x3 : Int32) (σ : wg_M), wg_t Sc x0 = 4 → k4 x0 x1 x2 x3 σ = some z → wg_G l E Sc "WornWigs$Judges" cX2_youngestBare 5 (some .int) rm_X2_youngestBare (some z.1) z.2 4 [some (.ref x0), some (.int x1), some (.int x2), some (.int x3), none] [] σ) (h : f_X2_youngestBare_44 k4 x0 x1 x2 x3 t0 σ = some z) : wg_G l E Sc "WornWigs$Judges" cX2_youngestBare 5 (some .int) rm_X2_youngestBare (some z.1) z.2 44 [some (.ref x0), some (.int x1), some (.int x2), some (.int x3), none] [.int t0] σ := by
  refine wr_istore (wg_da dt_X2_youngestBare 28 rfl) (by decide) ?_
  refine wr_iload (wg_da dt_X2_youngestBare 29 rfl) rfl ?_
  refine wr_if_eq 73 (wg_da dt_X2_youngestBare 30 rfl) (by decide) h (fun h => ?_) (fun h => ?_)
  · exact wr_wk [true, true, true, true, false] (g_X2_youngestBare_73 l E k4 x0 x1 x2 x3 σ _ hx0 hk4 h)
  · refine wr_iload_n (wg_da dt_X2_youngestBare 31 rfl) rfl ?_
    refine wr_iconst (-1 : Int32) (wg_da dt_X2_youngestBare 32 rfl) (by decide) ?_
    refine wr_icmp_eq 71 (wg_da dt_X2_youngestBare 33 rfl) (by decide) h (fun h => ?_) (fun h => ?_)
    · exact wr_wk [true, true, false, true, false] (g_X2_youngestBare_71 l E k4 x0 x1 x3 σ _ hx0 hk4 h)
    · refine wr_aload_n (wg_da dt_X2_youngestBare 34 rfl) rfl ?_
      refine wr_getR wf_X2_9 (wg_da dt_X2_youngestBare 35 rfl) hx0 ?_
      refine wr_iload_n (wg_da dt_X2_youngestBare 36 rfl) rfl ?_
      refine wr_iald (wg_da dt_X2_youngestBare 37 rfl) (wg_ty Sc_ok 2 0 0 hx0 rfl (by decide)).2 h (fun v1 h => ?_)
      refine wr_aload_n (wg_da dt_X2_youngestBare 38 rfl) rfl ?_
      refine wr_getR wf_X2_9 (wg_da dt_X2_youngestBare 39 rfl) hx0 ?_
      refine wr_iload_n (wg_da dt_X2_youngestBare 40 rfl) rfl ?_
      refine wr_iald (wg_da dt_X2_youngestBare 41 rfl) (wg_ty Sc_ok 2 0 0 hx0 rfl (by decide)).2 h (fun v2 h => ?_)
      refine wr_icmp_ge 73 (wg_da dt_X2_youngestBare 42 rfl) (by decide) h (fun h => ?_) (fun h => ?_)
      · exact wr_wk [true, true, true, true, false] (g_X2_youngestBare_73 l E k4 x0 x1 x2 x3 σ _ hx0 hk4 h)
      · exact wr_wk [true, true, false, true, false] (g_X2_youngestBare_71 l E k4 x0 x1 x3 σ _ hx0 hk4 h)
set_option maxRecDepth 20000 in
theorem g_X2_youngestBare_43 (l : Launch) (E : wg_E) (k4 : Nat → Int32 → Int32 → Int32 → wg_M → Option (Int32 × wg_M)) (x0 : Nat) (x1 : Int32) (x2 : Int32) (x3 : Int32) (σ : wg_M) (z : Int32 × wg_M) (hx0 : wg_t Sc x0 = 4) (hk4 : ∀ (x0 : Nat) (x1 : Int32) (x2 : Int32) (x3 : Int32) (σ : wg_M), wg_t Sc x0 = 4 → k4 x0 x1 x2 x3 σ = some z → wg_G l E Sc "WornWigs$Judges" cX2_youngestBare 5 (some .int) rm_X2_youngestBare (some z.1) z.2 4 [some (.ref x0), some (.int x1), some (.int x2), some (.int x3), none] [] σ) (h : f_X2_youngestBare_43 k4 x0 x1 x2 x3 σ = some z) : wg_G l E Sc "WornWigs$Judges" cX2_youngestBare 5 (some .int) rm_X2_youngestBare (some z.1) z.2 43 [some (.ref x0), some (.int x1), some (.int x2), some (.int x3), none] [] σ := by
  refine wr_iconst (0 : Int32) (wg_da dt_X2_youngestBare 27 rfl) (by decide) ?_
  exact wr_wk [true, true, true, true, false] (g_X2_youngestBare_44 l E k4 x0 x1 x2 x3 (0 : Int32) σ _ hx0 hk4 h)
set_option maxRecDepth 20000 in
theorem g_X2_youngestBare_4 (l : Launch) (E : wg_E)  (z : Int32 × wg_M) : ∀ (n : Nat) (x0 : Nat) (x1 : Int32) (x2 : Int32) (x3 : Int32) (σ : wg_M) (hx0 : wg_t Sc x0 = 4) (h : f_X2_youngestBare_4  n x0 x1 x2 x3 σ = some z), wg_G l E Sc "WornWigs$Judges" cX2_youngestBare 5 (some .int) rm_X2_youngestBare (some z.1) z.2 4 [some (.ref x0), some (.int x1), some (.int x2), some (.int x3), none] [] σ := by
  intro n
  induction n with
  | zero => intro x0 x1 x2 x3 σ hx0 h; cases h
  | succ n ih =>
    intro x0 x1 x2 x3 σ hx0 h
    refine wr_iload_n (wg_da dt_X2_youngestBare 4 rfl) rfl ?_
    refine wr_aload_n (wg_da dt_X2_youngestBare 5 rfl) rfl ?_
    refine wr_getI wf_X2_31 (wg_da dt_X2_youngestBare 6 rfl) hx0 ?_
    refine wr_icmp_ge 79 (wg_da dt_X2_youngestBare 7 rfl) (by decide) h (fun h => ?_) (fun h => ?_)
    · refine wr_iload_n (wg_da dt_X2_youngestBare 47 rfl) rfl ?_
      exact wr_iret (wg_da dt_X2_youngestBare 48 rfl) h
    · refine wr_aload_n (wg_da dt_X2_youngestBare 8 rfl) rfl ?_
      refine wr_getR wf_X2_21 (wg_da dt_X2_youngestBare 9 rfl) hx0 ?_
      refine wr_iload_n (wg_da dt_X2_youngestBare 10 rfl) rfl ?_
      refine wr_iald (wg_da dt_X2_youngestBare 11 rfl) (wg_ty Sc_ok 2 3 0 hx0 rfl (by decide)).2 h (fun v1 h => ?_)
      refine wr_if_ne 43 (wg_da dt_X2_youngestBare 12 rfl) (by decide) h (fun h => ?_) (fun h => ?_)
      · refine wr_aload_n (wg_da dt_X2_youngestBare 13 rfl) rfl ?_
        refine wr_getR wf_X2_18 (wg_da dt_X2_youngestBare 14 rfl) hx0 ?_
        refine wr_iload_n (wg_da dt_X2_youngestBare 15 rfl) rfl ?_
        refine wr_iald (wg_da dt_X2_youngestBare 16 rfl) (wg_ty Sc_ok 2 2 0 hx0 rfl (by decide)).2 h (fun v2 h => ?_)
        refine wr_iconst (-1 : Int32) (wg_da dt_X2_youngestBare 17 rfl) (by decide) ?_
        refine wr_icmp_ne 43 (wg_da dt_X2_youngestBare 18 rfl) (by decide) h (fun h => ?_) (fun h => ?_)
        · refine wr_iload_n (wg_da dt_X2_youngestBare 19 rfl) rfl ?_
          refine wr_iload_n (wg_da dt_X2_youngestBare 20 rfl) rfl ?_
          refine wr_ishr (wg_da dt_X2_youngestBare 21 rfl) ?_
          refine wr_iconst (1 : Int32) (wg_da dt_X2_youngestBare 22 rfl) (by decide) ?_
          refine wr_iand (wg_da dt_X2_youngestBare 23 rfl) ?_
          refine wr_if_ne 43 (wg_da dt_X2_youngestBare 24 rfl) (by decide) h (fun h => ?_) (fun h => ?_)
          · refine wr_iconst (1 : Int32) (wg_da dt_X2_youngestBare 25 rfl) (by decide) ?_
            refine wr_goto 44 (wg_da dt_X2_youngestBare 26 rfl) (by decide) ?_
            exact wr_wk [true, true, true, true, false] (g_X2_youngestBare_44 l E (f_X2_youngestBare_4  n) x0 x1 x2 x3 (1 : Int32) σ _ hx0 (fun x0 x1 x2 x3 σ hx0 h => ih x0 x1 x2 x3 σ hx0 h) h)
          · exact wr_wk [true, true, true, true, false] (g_X2_youngestBare_43 l E (f_X2_youngestBare_4  n) x0 x1 x2 x3 σ _ hx0 (fun x0 x1 x2 x3 σ hx0 h => ih x0 x1 x2 x3 σ hx0 h) h)
        · exact wr_wk [true, true, true, true, false] (g_X2_youngestBare_43 l E (f_X2_youngestBare_4  n) x0 x1 x2 x3 σ _ hx0 (fun x0 x1 x2 x3 σ hx0 h => ih x0 x1 x2 x3 σ hx0 h) h)
      · exact wr_wk [true, true, true, true, false] (g_X2_youngestBare_43 l E (f_X2_youngestBare_4  n) x0 x1 x2 x3 σ _ hx0 (fun x0 x1 x2 x3 σ hx0 h => ih x0 x1 x2 x3 σ hx0 h) h)
set_option maxRecDepth 20000 in
theorem g_X2_youngestBare_e (l : Launch) (E : wg_E)  (x0 : Nat) (x1 : Int32) (σ : wg_M) (z : Int32 × wg_M) (hx0 : wg_t Sc x0 = 4) (h : f_X2_youngestBare  x0 x1 σ = some z) : wg_G l E Sc "WornWigs$Judges" cX2_youngestBare 5 (some .int) rm_X2_youngestBare (some z.1) z.2 0 [some (.ref x0), some (.int x1), none, none, none] [] σ := by
  refine wr_iconst (-1 : Int32) (wg_da dt_X2_youngestBare 0 rfl) (by decide) ?_
  refine wr_istore_n (wg_da dt_X2_youngestBare 1 rfl) (by decide) ?_
  refine wr_iconst (0 : Int32) (wg_da dt_X2_youngestBare 2 rfl) (by decide) ?_
  refine wr_istore_n (wg_da dt_X2_youngestBare 3 rfl) (by decide) ?_
  exact wr_wk [true, true, true, true, false] (g_X2_youngestBare_4 l E  _  wg_N x0 x1 (-1 : Int32) (0 : Int32) σ hx0 h)
theorem m_X2_youngestBare (l : Launch) (E : wg_E) (x0 : Nat) (x1 : Int32) (hx0 : wg_t Sc x0 = 4) (σ : wg_M) (q : Int32 × wg_M) (h : f_X2_youngestBare x0 x1 σ = some q) : wg_MG l E Sc yX2_youngestBare cX2_youngestBare 5 (some .int) rm_X2_youngestBare [.ref x0, .int x1] σ (some q.1) q.2 :=
  wg_met [.ref x0, .int x1] (plainFor_of_name (by decide)) (Nat.le_of_ble_eq_true rfl) (g_X2_youngestBare_e l E x0 x1 σ q hx0 h)
abbrev rm_X1_passOn : Room := { frames := 3, cells := 0, slots := 0, locals := 70 }
def tb_X1_passOn : List (Nat × Instr × Nat) := [(0, .aload_n 0, 1), (1, .getfield 37, 3), (4, .getfield 132, 3), (7, .iload_n 1, 1), (8, .iaload, 1), (9, .istore_n 2, 1), (10, .aload_n 0, 1), (11, .getfield 37, 3), (14, .getfield 262, 3), (17, .iload_n 1, 1), (18, .iconst 1, 1), (19, .iastore, 1), (20, .aload_n 0, 1), (21, .iconst 2, 1), (22, .iload_n 1, 1), (23, .aload_n 0, 1), (24, .getfield 37, 3), (27, .getfield 83, 3), (30, .iload_n 1, 1), (31, .iaload, 1), (32, .invokevirtual 186, 3), (35, .aload_n 0, 1), (36, .getfield 32, 3), (39, .iload_n 2, 1), (40, .invokevirtual 135, 3), (43, .ifCond .ne 4, 3), (46, .return_, 1), (47, .aload_n 0, 1), (48, .getfield 37, 3), (51, .iconst 0, 1), (52, .invokevirtual 265, 3), (55, .istore_n 3, 1), (56, .iload_n 3, 1), (57, .iconst (-1), 1), (58, .if_icmp .ne 11, 3), (61, .aload_n 0, 1), (62, .iload_n 2, 1), (63, .invokevirtual 204, 3), (66, .goto 9, 3), (69, .aload_n 0, 1), (70, .iload_n 2, 1), (71, .iload_n 3, 1), (72, .invokevirtual 201, 3), (75, .return_, 1)]
theorem dt_X1_passOn : wg_dc cX1_passOn tb_X1_passOn := by unfold wg_dc; decide +kernel
def f_X1_passOn  (x0 : Nat) (x1 : Int32) (σ : wg_M) : Option (Int32 × wg_M) := wg_ga (wg_n Sc (wg_r Sc (wg_r Sc x0 3) 2)) (σ (wg_r Sc (wg_r Sc x0 3) 2)) x1 (fun v1 => wg_sa (wg_n Sc (wg_r Sc (wg_r Sc x0 3) 3)) σ (wg_r Sc (wg_r Sc x0 3) 3) x1 (1 : Int32) (fun s2 => wg_ga (wg_n Sc (wg_r Sc (wg_r Sc x0 3) 0)) (s2 (wg_r Sc (wg_r Sc x0 3) 0)) x1 (fun v3 => wg_bd (f_X1_note x0 (2 : Int32) x1 v3 s2) (fun _ s4 => wg_bd (f_X9_has (wg_r Sc x0 2) v1 s4) (fun v5 s6 => if v5 = 0 then (some (0, s6)) else (wg_bd (f_X2_youngestBare (wg_r Sc x0 3) (0 : Int32) s6) (fun v7 s8 => if v7 = (-1 : Int32) then (wg_bd (f_X1_takeOff x0 v1 s8) (fun _ s10 => some (0, s10))) else (wg_bd (f_X1_putOn x0 v1 v7 s8) (fun _ s9 => some (0, s9))))))))))
set_option maxRecDepth 20000 in
theorem g_X1_passOn_e (l : Launch) (E : wg_E)  (x0 : Nat) (x1 : Int32) (σ : wg_M) (z : Int32 × wg_M) (hx0 : wg_t Sc x0 = 3) (h : f_X1_passOn  x0 x1 σ = some z) : wg_G l E Sc "WornWigs$Court" cX1_passOn 4 none rm_X1_passOn none z.2 0 [some (.ref x0), some (.int x1), none, none] [] σ := by
  refine wr_aload_n (wg_da dt_X1_passOn 0 rfl) rfl ?_
  refine wr_getR wf_X1_37 (wg_da dt_X1_passOn 1 rfl) hx0 ?_
  refine wr_getR wf_X1_132 (wg_da dt_X1_passOn 2 rfl) (wg_ty Sc_ok 1 3 4 hx0 rfl (by decide)).2 ?_
  refine wr_iload_n (wg_da dt_X1_passOn 3 rfl) rfl ?_
  refine wr_iald (wg_da dt_X1_passOn 4 rfl) (wg_ty Sc_ok 2 2 0 (wg_ty Sc_ok 1 3 4 hx0 rfl (by decide)).2 rfl (by decide)).2 h (fun v1 h => ?_)
  refine wr_istore_n (wg_da dt_X1_passOn 5 rfl) (by decide) ?_
  refine wr_aload_n (wg_da dt_X1_passOn 6 rfl) rfl ?_
  refine wr_getR wf_X1_37 (wg_da dt_X1_passOn 7 rfl) hx0 ?_
  refine wr_getR wf_X1_262 (wg_da dt_X1_passOn 8 rfl) (wg_ty Sc_ok 1 3 4 hx0 rfl (by decide)).2 ?_
  refine wr_iload_n (wg_da dt_X1_passOn 9 rfl) rfl ?_
  refine wr_iconst (1 : Int32) (wg_da dt_X1_passOn 10 rfl) (by decide) ?_
  refine wr_iast (wg_da dt_X1_passOn 11 rfl) (wg_ty Sc_ok 2 3 0 (wg_ty Sc_ok 1 3 4 hx0 rfl (by decide)).2 rfl (by decide)).2 h (fun s2 h => ?_)
  refine wr_aload_n (wg_da dt_X1_passOn 12 rfl) rfl ?_
  refine wr_iconst (2 : Int32) (wg_da dt_X1_passOn 13 rfl) (by decide) ?_
  refine wr_iload_n (wg_da dt_X1_passOn 14 rfl) rfl ?_
  refine wr_aload_n (wg_da dt_X1_passOn 15 rfl) rfl ?_
  refine wr_getR wf_X1_37 (wg_da dt_X1_passOn 16 rfl) hx0 ?_
  refine wr_getR wf_X1_83 (wg_da dt_X1_passOn 17 rfl) (wg_ty Sc_ok 1 3 4 hx0 rfl (by decide)).2 ?_
  refine wr_iload_n (wg_da dt_X1_passOn 18 rfl) rfl ?_
  refine wr_iald (wg_da dt_X1_passOn 19 rfl) (wg_ty Sc_ok 2 0 0 (wg_ty Sc_ok 1 3 4 hx0 rfl (by decide)).2 rfl (by decide)).2 h (fun v3 h => ?_)
  refine wr_callVv [.int (2 : Int32), .int x1, .int v3] [] (wg_da dt_X1_passOn 20 rfl) ⟨wq_3_215, wq_3_217, wq_p1_8⟩ hx0 ⟨rfl, by decide⟩ wy_X1_note (fun q hq => m_X1_note l E x0 (2 : Int32) x1 v3 hx0 _ q hq) rfl rfl (Nat.le_of_ble_eq_true rfl) ⟨rfl, rfl, by decide, by decide⟩ h (fun _ s4 h => ?_)
  refine wr_aload_n (wg_da dt_X1_passOn 21 rfl) rfl ?_
  refine wr_getR wf_X1_32 (wg_da dt_X1_passOn 22 rfl) hx0 ?_
  refine wr_iload_n (wg_da dt_X1_passOn 23 rfl) rfl ?_
  refine wr_callVi [.int v1] [] (wg_da dt_X1_passOn 24 rfl) ⟨wq_3_164, wq_3_76, wq_3_77⟩ (wg_ty Sc_ok 1 2 11 hx0 rfl (by decide)).2 ⟨rfl, by decide⟩ wy_X9_has (fun q hq => m_X9_has l E (wg_r Sc x0 2) v1 (wg_ty Sc_ok 1 2 11 hx0 rfl (by decide)).2 _ q hq) rfl rfl (Nat.le_of_ble_eq_true rfl) ⟨rfl, rfl, by decide, by decide⟩ h (fun v5 s6 h => ?_)
  refine wr_if_ne 47 (wg_da dt_X1_passOn 25 rfl) (by decide) h (fun h => ?_) (fun h => ?_)
  · exact wr_vret (wg_da dt_X1_passOn 26 rfl) h
  · refine wr_aload_n (wg_da dt_X1_passOn 27 rfl) rfl ?_
    refine wr_getR wf_X1_37 (wg_da dt_X1_passOn 28 rfl) hx0 ?_
    refine wr_iconst (0 : Int32) (wg_da dt_X1_passOn 29 rfl) (by decide) ?_
    refine wr_callVi [.int (0 : Int32)] [] (wg_da dt_X1_passOn 30 rfl) ⟨wq_4_53, wq_4_54, wq_4_55⟩ (wg_ty Sc_ok 1 3 4 hx0 rfl (by decide)).2 ⟨rfl, by decide⟩ wy_X2_youngestBare (fun q hq => m_X2_youngestBare l E (wg_r Sc x0 3) (0 : Int32) (wg_ty Sc_ok 1 3 4 hx0 rfl (by decide)).2 _ q hq) rfl rfl (Nat.le_of_ble_eq_true rfl) ⟨rfl, rfl, by decide, by decide⟩ h (fun v7 s8 h => ?_)
    refine wr_istore_n (wg_da dt_X1_passOn 31 rfl) (by decide) ?_
    refine wr_iload_n (wg_da dt_X1_passOn 32 rfl) rfl ?_
    refine wr_iconst (-1 : Int32) (wg_da dt_X1_passOn 33 rfl) (by decide) ?_
    refine wr_icmp_ne 69 (wg_da dt_X1_passOn 34 rfl) (by decide) h (fun h => ?_) (fun h => ?_)
    · refine wr_aload_n (wg_da dt_X1_passOn 35 rfl) rfl ?_
      refine wr_iload_n (wg_da dt_X1_passOn 36 rfl) rfl ?_
      refine wr_callVv [.int v1] [] (wg_da dt_X1_passOn 37 rfl) ⟨wq_4_8, wq_4_10, wq_p1_10⟩ hx0 ⟨rfl, by decide⟩ wy_X1_takeOff (fun q hq => m_X1_takeOff l E x0 v1 hx0 _ q hq) rfl rfl (Nat.le_of_ble_eq_true rfl) ⟨rfl, rfl, by decide, by decide⟩ h (fun _ s10 h => ?_)
      refine wr_goto 75 (wg_da dt_X1_passOn 38 rfl) (by decide) ?_
      exact wr_vret (wg_da dt_X1_passOn 43 rfl) h
    · refine wr_aload_n (wg_da dt_X1_passOn 39 rfl) rfl ?_
      refine wr_iload_n (wg_da dt_X1_passOn 40 rfl) rfl ?_
      refine wr_iload_n (wg_da dt_X1_passOn 41 rfl) rfl ?_
      refine wr_callVv [.int v1, .int v7] [] (wg_da dt_X1_passOn 42 rfl) ⟨wq_4_4, wq_4_6, wq_p1_9⟩ hx0 ⟨rfl, by decide⟩ wy_X1_putOn (fun q hq => m_X1_putOn l E x0 v1 v7 hx0 _ q hq) rfl rfl (Nat.le_of_ble_eq_true rfl) ⟨rfl, rfl, by decide, by decide⟩ h (fun _ s9 h => ?_)
      exact wr_vret (wg_da dt_X1_passOn 43 rfl) h
theorem m_X1_passOn (l : Launch) (E : wg_E) (x0 : Nat) (x1 : Int32) (hx0 : wg_t Sc x0 = 3) (σ : wg_M) (q : Int32 × wg_M) (h : f_X1_passOn x0 x1 σ = some q) : wg_MG l E Sc yX1_passOn cX1_passOn 4 none rm_X1_passOn [.ref x0, .int x1] σ none q.2 :=
  wg_met [.ref x0, .int x1] (plainFor_of_name (by decide)) (Nat.le_of_ble_eq_true rfl) (g_X1_passOn_e l E x0 x1 σ q hx0 h)
abbrev rm_X1_wearOut : Room := { frames := 4, cells := 0, slots := 0, locals := 93 }
def tb_X1_wearOut : List (Nat × Instr × Nat) := [(0, .aload_n 0, 1), (1, .getfield 32, 3), (4, .getfield 99, 3), (7, .iload_n 1, 1), (8, .iconst 0, 1), (9, .aload_n 0, 1), (10, .getfield 32, 3), (13, .getfield 99, 3), (16, .iload_n 1, 1), (17, .iaload, 1), (18, .aload_n 0, 1), (19, .iload_n 1, 1), (20, .invokevirtual 268, 3), (23, .isub, 1), (24, .invokestatic 139, 3), (27, .iastore, 1), (28, .aload_n 0, 1), (29, .getfield 32, 3), (32, .getfield 99, 3), (35, .iload_n 1, 1), (36, .iaload, 1), (37, .ifCond .ne 44, 3), (40, .aload_n 0, 1), (41, .getfield 32, 3), (44, .getfield 147, 3), (47, .iload_n 1, 1), (48, .iaload, 1), (49, .ifCond .le 32, 3), (52, .aload_n 0, 1), (53, .getfield 32, 3), (56, .getfield 118, 3), (59, .iload_n 1, 1), (60, .bipush 8, 2), (62, .imul, 1), (63, .iaload, 1), (64, .istore_n 2, 1), (65, .aload_n 0, 1), (66, .getfield 32, 3), (69, .iload_n 1, 1), (70, .iconst 0, 1), (71, .invokevirtual 179, 3), (74, .aload_n 0, 1), (75, .iconst 3, 1), (76, .iload_n 1, 1), (77, .iload_n 2, 1), (78, .invokevirtual 186, 3), (81, .aload_n 0, 1), (82, .getfield 37, 3), (85, .iload_n 1, 1), (86, .invokevirtual 190, 3), (89, .iconst (-1), 1), (90, .if_icmp .eq 12, 3), (93, .aload_n 0, 1), (94, .getfield 32, 3), (97, .iload_n 1, 1), (98, .iconst 1, 1), (99, .invokevirtual 213, 3), (102, .return_, 1)]
theorem dt_X1_wearOut : wg_dc cX1_wearOut tb_X1_wearOut := by unfold wg_dc; decide +kernel
def f_X1_wearOut_81  (x0 : Nat) (x1 : Int32) (σ : wg_M) : Option (Int32 × wg_M) := wg_bd (f_X2_wearer (wg_r Sc x0 3) x1 σ) (fun v1 s2 => if v1 = (-1 : Int32) then (some (0, s2)) else (wg_bd (f_X9_weigh (wg_r Sc x0 2) x1 (1 : Int32) s2) (fun _ s3 => some (0, s3))))
def f_X1_wearOut  (x0 : Nat) (x1 : Int32) (σ : wg_M) : Option (Int32 × wg_M) := wg_ga (wg_n Sc (wg_r Sc (wg_r Sc x0 2) 1)) (σ (wg_r Sc (wg_r Sc x0 2) 1)) x1 (fun v1 => wg_bd (f_X1_mothOf x0 x1 σ) (fun v2 s3 => wg_bd (f_J9_max_7cf53 (0 : Int32) (v1 - v2) s3) (fun v4 s5 => wg_sa (wg_n Sc (wg_r Sc (wg_r Sc x0 2) 1)) s5 (wg_r Sc (wg_r Sc x0 2) 1) x1 v4 (fun s6 => wg_ga (wg_n Sc (wg_r Sc (wg_r Sc x0 2) 1)) (s6 (wg_r Sc (wg_r Sc x0 2) 1)) x1 (fun v7 => if v7 = 0 then (wg_ga (wg_n Sc (wg_r Sc (wg_r Sc x0 2) 4)) (s6 (wg_r Sc (wg_r Sc x0 2) 4)) x1 (fun v8 => if v8 ≤ 0 then (f_X1_wearOut_81  x0 x1 s6) else (wg_ga (wg_n Sc (wg_r Sc (wg_r Sc x0 2) 5)) (s6 (wg_r Sc (wg_r Sc x0 2) 5)) (x1 * (8 : Int32)) (fun v9 => wg_bd (f_X9_dropRule (wg_r Sc x0 2) x1 (0 : Int32) s6) (fun _ s10 => wg_bd (f_X1_note x0 (3 : Int32) x1 v9 s10) (fun _ s11 => f_X1_wearOut_81  x0 x1 s11)))))) else (f_X1_wearOut_81  x0 x1 s6))))))
set_option maxRecDepth 20000 in
theorem g_X1_wearOut_81 (l : Launch) (E : wg_E)  (x0 : Nat) (x1 : Int32) (σ : wg_M) (z : Int32 × wg_M) (hx0 : wg_t Sc x0 = 3) (h : f_X1_wearOut_81  x0 x1 σ = some z) : wg_G l E Sc "WornWigs$Court" cX1_wearOut 3 none rm_X1_wearOut none z.2 81 [some (.ref x0), some (.int x1), none] [] σ := by
  refine wr_aload_n (wg_da dt_X1_wearOut 46 rfl) rfl ?_
  refine wr_getR wf_X1_37 (wg_da dt_X1_wearOut 47 rfl) hx0 ?_
  refine wr_iload_n (wg_da dt_X1_wearOut 48 rfl) rfl ?_
  refine wr_callVi [.int x1] [] (wg_da dt_X1_wearOut 49 rfl) ⟨wq_3_231, wq_3_232, wq_3_233⟩ (wg_ty Sc_ok 1 3 4 hx0 rfl (by decide)).2 ⟨rfl, by decide⟩ wy_X2_wearer (fun q hq => m_X2_wearer l E (wg_r Sc x0 3) x1 (wg_ty Sc_ok 1 3 4 hx0 rfl (by decide)).2 _ q hq) rfl rfl (Nat.le_of_ble_eq_true rfl) ⟨rfl, rfl, by decide, by decide⟩ h (fun v1 s2 h => ?_)
  refine wr_iconst (-1 : Int32) (wg_da dt_X1_wearOut 50 rfl) (by decide) ?_
  refine wr_icmp_eq 102 (wg_da dt_X1_wearOut 51 rfl) (by decide) h (fun h => ?_) (fun h => ?_)
  · exact wr_vret (wg_da dt_X1_wearOut 57 rfl) h
  · refine wr_aload_n (wg_da dt_X1_wearOut 52 rfl) rfl ?_
    refine wr_getR wf_X1_32 (wg_da dt_X1_wearOut 53 rfl) hx0 ?_
    refine wr_iload_n (wg_da dt_X1_wearOut 54 rfl) rfl ?_
    refine wr_iconst (1 : Int32) (wg_da dt_X1_wearOut 55 rfl) (by decide) ?_
    refine wr_callVv [.int x1, .int (1 : Int32)] [] (wg_da dt_X1_wearOut 56 rfl) ⟨wq_4_17, wq_4_18, wq_4_19⟩ (wg_ty Sc_ok 1 2 11 hx0 rfl (by decide)).2 ⟨rfl, by decide⟩ wy_X9_weigh (fun q hq => m_X9_weigh l E (wg_r Sc x0 2) x1 (1 : Int32) (wg_ty Sc_ok 1 2 11 hx0 rfl (by decide)).2 _ q hq) rfl rfl (Nat.le_of_ble_eq_true rfl) ⟨rfl, rfl, by decide, by decide⟩ h (fun _ s3 h => ?_)
    exact wr_vret (wg_da dt_X1_wearOut 57 rfl) h
set_option maxRecDepth 20000 in
theorem g_X1_wearOut_e (l : Launch) (E : wg_E)  (x0 : Nat) (x1 : Int32) (σ : wg_M) (z : Int32 × wg_M) (hx0 : wg_t Sc x0 = 3) (h : f_X1_wearOut  x0 x1 σ = some z) : wg_G l E Sc "WornWigs$Court" cX1_wearOut 3 none rm_X1_wearOut none z.2 0 [some (.ref x0), some (.int x1), none] [] σ := by
  refine wr_aload_n (wg_da dt_X1_wearOut 0 rfl) rfl ?_
  refine wr_getR wf_X1_32 (wg_da dt_X1_wearOut 1 rfl) hx0 ?_
  refine wr_getR wf_X1_99 (wg_da dt_X1_wearOut 2 rfl) (wg_ty Sc_ok 1 2 11 hx0 rfl (by decide)).2 ?_
  refine wr_iload_n (wg_da dt_X1_wearOut 3 rfl) rfl ?_
  refine wr_iconst (0 : Int32) (wg_da dt_X1_wearOut 4 rfl) (by decide) ?_
  refine wr_aload_n (wg_da dt_X1_wearOut 5 rfl) rfl ?_
  refine wr_getR wf_X1_32 (wg_da dt_X1_wearOut 6 rfl) hx0 ?_
  refine wr_getR wf_X1_99 (wg_da dt_X1_wearOut 7 rfl) (wg_ty Sc_ok 1 2 11 hx0 rfl (by decide)).2 ?_
  refine wr_iload_n (wg_da dt_X1_wearOut 8 rfl) rfl ?_
  refine wr_iald (wg_da dt_X1_wearOut 9 rfl) (wg_ty Sc_ok 9 1 0 (wg_ty Sc_ok 1 2 11 hx0 rfl (by decide)).2 rfl (by decide)).2 h (fun v1 h => ?_)
  refine wr_aload_n (wg_da dt_X1_wearOut 10 rfl) rfl ?_
  refine wr_iload_n (wg_da dt_X1_wearOut 11 rfl) rfl ?_
  refine wr_callVi [.int x1] [.int v1, .int (0 : Int32), .int x1, .ref (wg_r Sc (wg_r Sc x0 2) 1)] (wg_da dt_X1_wearOut 12 rfl) ⟨wq_4_61, wq_4_62, wq_4_63⟩ hx0 ⟨rfl, by decide⟩ wy_X1_mothOf (fun q hq => m_X1_mothOf l E x0 x1 hx0 _ q hq) rfl rfl (Nat.le_of_ble_eq_true rfl) ⟨rfl, rfl, by decide, by decide⟩ h (fun v2 s3 h => ?_)
  refine wr_isub (wg_da dt_X1_wearOut 13 rfl) ?_
  refine wr_callSi [.int (0 : Int32), .int (v1 - v2)] [.int x1, .ref (wg_r Sc (wg_r Sc x0 2) 1)] (wg_da dt_X1_wearOut 14 rfl) ⟨wq_4_42, wq_1_202⟩ wy_J9_max_7cf53 (fun q hq => m_J9_max_7cf53 l E (0 : Int32) (v1 - v2)  _ q hq) rfl rfl (Nat.le_of_ble_eq_true rfl) ⟨rfl, rfl, by decide, by decide⟩ h (fun v4 s5 h => ?_)
  refine wr_iast (wg_da dt_X1_wearOut 15 rfl) (wg_ty Sc_ok 9 1 0 (wg_ty Sc_ok 1 2 11 hx0 rfl (by decide)).2 rfl (by decide)).2 h (fun s6 h => ?_)
  refine wr_aload_n (wg_da dt_X1_wearOut 16 rfl) rfl ?_
  refine wr_getR wf_X1_32 (wg_da dt_X1_wearOut 17 rfl) hx0 ?_
  refine wr_getR wf_X1_99 (wg_da dt_X1_wearOut 18 rfl) (wg_ty Sc_ok 1 2 11 hx0 rfl (by decide)).2 ?_
  refine wr_iload_n (wg_da dt_X1_wearOut 19 rfl) rfl ?_
  refine wr_iald (wg_da dt_X1_wearOut 20 rfl) (wg_ty Sc_ok 9 1 0 (wg_ty Sc_ok 1 2 11 hx0 rfl (by decide)).2 rfl (by decide)).2 h (fun v7 h => ?_)
  refine wr_if_ne 81 (wg_da dt_X1_wearOut 21 rfl) (by decide) h (fun h => ?_) (fun h => ?_)
  · refine wr_aload_n (wg_da dt_X1_wearOut 22 rfl) rfl ?_
    refine wr_getR wf_X1_32 (wg_da dt_X1_wearOut 23 rfl) hx0 ?_
    refine wr_getR wf_X1_147 (wg_da dt_X1_wearOut 24 rfl) (wg_ty Sc_ok 1 2 11 hx0 rfl (by decide)).2 ?_
    refine wr_iload_n (wg_da dt_X1_wearOut 25 rfl) rfl ?_
    refine wr_iald (wg_da dt_X1_wearOut 26 rfl) (wg_ty Sc_ok 9 4 0 (wg_ty Sc_ok 1 2 11 hx0 rfl (by decide)).2 rfl (by decide)).2 h (fun v8 h => ?_)
    refine wr_if_le 81 (wg_da dt_X1_wearOut 27 rfl) (by decide) h (fun h => ?_) (fun h => ?_)
    · exact wr_wk [true, true, false] (g_X1_wearOut_81 l E  x0 x1 s6 _ hx0  h)
    · refine wr_aload_n (wg_da dt_X1_wearOut 28 rfl) rfl ?_
      refine wr_getR wf_X1_32 (wg_da dt_X1_wearOut 29 rfl) hx0 ?_
      refine wr_getR wf_X1_118 (wg_da dt_X1_wearOut 30 rfl) (wg_ty Sc_ok 1 2 11 hx0 rfl (by decide)).2 ?_
      refine wr_iload_n (wg_da dt_X1_wearOut 31 rfl) rfl ?_
      refine wr_bipush (8 : Int32) (wg_da dt_X1_wearOut 32 rfl) (by decide) ?_
      refine wr_imul (wg_da dt_X1_wearOut 33 rfl) ?_
      refine wr_iald (wg_da dt_X1_wearOut 34 rfl) (wg_ty Sc_ok 9 5 0 (wg_ty Sc_ok 1 2 11 hx0 rfl (by decide)).2 rfl (by decide)).2 h (fun v9 h => ?_)
      refine wr_istore_n (wg_da dt_X1_wearOut 35 rfl) (by decide) ?_
      refine wr_aload_n (wg_da dt_X1_wearOut 36 rfl) rfl ?_
      refine wr_getR wf_X1_32 (wg_da dt_X1_wearOut 37 rfl) hx0 ?_
      refine wr_iload_n (wg_da dt_X1_wearOut 38 rfl) rfl ?_
      refine wr_iconst (0 : Int32) (wg_da dt_X1_wearOut 39 rfl) (by decide) ?_
      refine wr_callVv [.int x1, .int (0 : Int32)] [] (wg_da dt_X1_wearOut 40 rfl) ⟨wq_3_206, wq_3_207, wq_3_208⟩ (wg_ty Sc_ok 1 2 11 hx0 rfl (by decide)).2 ⟨rfl, by decide⟩ wy_X9_dropRule (fun q hq => m_X9_dropRule l E (wg_r Sc x0 2) x1 (0 : Int32) (wg_ty Sc_ok 1 2 11 hx0 rfl (by decide)).2 _ q hq) rfl rfl (Nat.le_of_ble_eq_true rfl) ⟨rfl, rfl, by decide, by decide⟩ h (fun _ s10 h => ?_)
      refine wr_aload_n (wg_da dt_X1_wearOut 41 rfl) rfl ?_
      refine wr_iconst (3 : Int32) (wg_da dt_X1_wearOut 42 rfl) (by decide) ?_
      refine wr_iload_n (wg_da dt_X1_wearOut 43 rfl) rfl ?_
      refine wr_iload_n (wg_da dt_X1_wearOut 44 rfl) rfl ?_
      refine wr_callVv [.int (3 : Int32), .int x1, .int v9] [] (wg_da dt_X1_wearOut 45 rfl) ⟨wq_3_215, wq_3_217, wq_p1_8⟩ hx0 ⟨rfl, by decide⟩ wy_X1_note (fun q hq => m_X1_note l E x0 (3 : Int32) x1 v9 hx0 _ q hq) rfl rfl (Nat.le_of_ble_eq_true rfl) ⟨rfl, rfl, by decide, by decide⟩ h (fun _ s11 h => ?_)
      exact wr_wk [true, true, false] (g_X1_wearOut_81 l E  x0 x1 s11 _ hx0  h)
  · exact wr_wk [true, true, false] (g_X1_wearOut_81 l E  x0 x1 s6 _ hx0  h)
theorem m_X1_wearOut (l : Launch) (E : wg_E) (x0 : Nat) (x1 : Int32) (hx0 : wg_t Sc x0 = 3) (σ : wg_M) (q : Int32 × wg_M) (h : f_X1_wearOut x0 x1 σ = some q) : wg_MG l E Sc yX1_wearOut cX1_wearOut 3 none rm_X1_wearOut [.ref x0, .int x1] σ none q.2 :=
  wg_met [.ref x0, .int x1] (plainFor_of_name (by decide)) (Nat.le_of_ble_eq_true rfl) (g_X1_wearOut_e l E x0 x1 σ q hx0 h)
abbrev rm_X1_passYear : Room := { frames := 6, cells := 0, slots := 0, locals := 147 }
def tb_X1_passYear : List (Nat × Instr × Nat) := [(0, .aload_n 0, 1), (1, .getfield 18, 3), (4, .getfield 216, 3), (7, .astore_n 1, 1), (8, .iconst 0, 1), (9, .istore_n 2, 1), (10, .iload_n 2, 1), (11, .aload_n 1, 1), (12, .getfield 59, 3), (15, .if_icmp .ge 72, 3), (18, .aload_n 1, 1), (19, .getfield 219, 3), (22, .iload_n 2, 1), (23, .iaload, 1), (24, .aload_n 0, 1), (25, .getfield 27, 3), (28, .getfield 64, 3), (31, .if_icmp .ne 50, 3), (34, .aload_n 0, 1), (35, .aload_n 1, 1), (36, .getfield 221, 3), (39, .iload_n 2, 1), (40, .iaload, 1), (41, .aload_n 1, 1), (42, .getfield 224, 3), (45, .iload_n 2, 1), (46, .iaload, 1), (47, .aload_n 1, 1), (48, .getfield 227, 3), (51, .iload_n 2, 1), (52, .iaload, 1), (53, .invokevirtual 230, 3), (56, .ifCond .eq 25, 3), (59, .aload_n 0, 1), (60, .aload_n 1, 1), (61, .getfield 221, 3), (64, .iload_n 2, 1), (65, .iaload, 1), (66, .aload_n 1, 1), (67, .getfield 224, 3), (70, .iload_n 2, 1), (71, .iaload, 1), (72, .aload_n 1, 1), (73, .getfield 227, 3), (76, .iload_n 2, 1), (77, .iaload, 1), (78, .invokevirtual 233, 3), (81, .iinc 2 1, 3), (84, .goto (-74), 3), (87, .aload_n 0, 1), (88, .getfield 18, 3), (91, .getfield 236, 3), (94, .astore_n 2, 1), (95, .iconst 0, 1), (96, .istore_n 3, 1), (97, .iload_n 3, 1), (98, .aload_n 2, 1), (99, .getfield 59, 3), (102, .if_icmp .ge 60, 3), (105, .aload_n 2, 1), (106, .getfield 219, 3), (109, .iload_n 3, 1), (110, .iaload, 1), (111, .aload_n 0, 1), (112, .getfield 27, 3), (115, .getfield 64, 3), (118, .if_icmp .ne 38, 3), (121, .aload_n 0, 1), (122, .aload_n 2, 1), (123, .getfield 224, 3), (126, .iload_n 3, 1), (127, .iaload, 1), (128, .aload_n 2, 1), (129, .getfield 227, 3), (132, .iload_n 3, 1), (133, .iaload, 1), (134, .invokevirtual 239, 3), (137, .ifCond .eq 19, 3), (140, .aload_n 0, 1), (141, .aload_n 2, 1), (142, .getfield 224, 3), (145, .iload_n 3, 1), (146, .iaload, 1), (147, .aload_n 2, 1), (148, .getfield 227, 3), (151, .iload_n 3, 1), (152, .iaload, 1), (153, .invokevirtual 242, 3), (156, .iinc 3 1, 3), (159, .goto (-62), 3), (162, .iconst 0, 1), (163, .istore_n 3, 1), (164, .iconst 0, 1), (165, .istore 4, 2), (167, .iload 4, 2), (169, .aload_n 0, 1), (170, .getfield 37, 3), (173, .getfield 245, 3), (176, .if_icmp .ge 39, 3), (179, .aload_n 0, 1), (180, .getfield 37, 3), (183, .iload 4, 2), (185, .invokevirtual 166, 3), (188, .ifCond .eq 21, 3), (191, .aload_n 0, 1), (192, .iload 4, 2), (194, .invokevirtual 246, 3), (197, .ifCond .eq 12, 3), (200, .aload_n 0, 1), (201, .iload 4, 2), (203, .invokevirtual 249, 3), (206, .iinc 3 1, 3), (209, .iinc 4 1, 3), (212, .goto (-45), 3), (215, .iconst 0, 1), (216, .istore 4, 2), (218, .iload 4, 2), (220, .aload_n 0, 1), (221, .getfield 32, 3), (224, .getfield 252, 3), (227, .if_icmp .ge 15, 3), (230, .aload_n 0, 1), (231, .iload 4, 2), (233, .invokevirtual 253, 3), (236, .iinc 4 1, 3), (239, .goto (-21), 3), (242, .aload_n 0, 1), (243, .getfield 27, 3), (246, .dup, 1), (247, .getfield 64, 3), (250, .iconst 1, 1), (251, .iadd, 1), (252, .putfield 64, 3), (255, .iload_n 3, 1), (256, .ireturn, 1)]
theorem dt_X1_passYear : wg_dc cX1_passYear tb_X1_passYear := by unfold wg_dc; decide +kernel
def f_X1_passYear_81 (k10 : Nat → Nat → Int32 → wg_M → Option (Int32 × wg_M)) (x0 : Nat) (x1 : Nat) (x2 : Int32) (σ : wg_M) : Option (Int32 × wg_M) := wg_let (x2 + (1 : Int32)) (fun v1 => k10 x0 x1 v1 σ)
def f_X1_passYear_156 (k97 : Nat → Nat → Int32 → wg_M → Option (Int32 × wg_M)) (x0 : Nat) (x2 : Nat) (x3 : Int32) (σ : wg_M) : Option (Int32 × wg_M) := wg_let (x3 + (1 : Int32)) (fun v1 => k97 x0 x2 v1 σ)
def f_X1_passYear_209 (k167 : Nat → Int32 → Int32 → wg_M → Option (Int32 × wg_M)) (x0 : Nat) (x3 : Int32) (x4 : Int32) (σ : wg_M) : Option (Int32 × wg_M) := wg_let (x4 + (1 : Int32)) (fun v1 => k167 x0 x3 v1 σ)
def f_X1_passYear_218  : Nat → Nat → Int32 → Int32 → wg_M → Option (Int32 × wg_M)
  | 0, _, _, _, _ => none
  | n + 1, x0, x3, x4, σ => if (σ (wg_r Sc x0 2) 8) ≤ x4 then (wg_st σ (wg_r Sc x0 1) 7 ((σ (wg_r Sc x0 1) 7) + (1 : Int32)) (fun s1 => some (x3, s1))) else (wg_bd (f_X1_wearOut x0 x4 σ) (fun _ s2 => wg_let (x4 + (1 : Int32)) (fun v3 => f_X1_passYear_218  n x0 x3 v3 s2)))
def f_X1_passYear_167  : Nat → Nat → Int32 → Int32 → wg_M → Option (Int32 × wg_M)
  | 0, _, _, _, _ => none
  | n + 1, x0, x3, x4, σ => if (σ (wg_r Sc x0 3) 5) ≤ x4 then (f_X1_passYear_218  wg_N x0 x3 (0 : Int32) σ) else (wg_bd (f_X2_lives (wg_r Sc x0 3) x4 σ) (fun v1 s2 => if v1 = 0 then (f_X1_passYear_209 (f_X1_passYear_167  n) x0 x3 x4 s2) else (wg_bd (f_X1_growsOldAndDies x0 x4 s2) (fun v3 s4 => if v3 = 0 then (f_X1_passYear_209 (f_X1_passYear_167  n) x0 x3 x4 s4) else (wg_bd (f_X1_passOn x0 x4 s4) (fun _ s5 => wg_let (x3 + (1 : Int32)) (fun v6 => f_X1_passYear_209 (f_X1_passYear_167  n) x0 v6 x4 s5)))))))
def f_X1_passYear_97  : Nat → Nat → Nat → Int32 → wg_M → Option (Int32 × wg_M)
  | 0, _, _, _, _ => none
  | n + 1, x0, x2, x3, σ => if (σ x2 4) ≤ x3 then (f_X1_passYear_167  wg_N x0 (0 : Int32) (0 : Int32) σ) else (wg_ga (wg_n Sc (wg_r Sc x2 0)) (σ (wg_r Sc x2 0)) x3 (fun v1 => if v1 = (σ (wg_r Sc x0 1) 7) then (wg_ga (wg_n Sc (wg_r Sc x2 2)) (σ (wg_r Sc x2 2)) x3 (fun v2 => wg_ga (wg_n Sc (wg_r Sc x2 3)) (σ (wg_r Sc x2 3)) x3 (fun v3 => wg_bd (f_X1_canTry x0 v2 v3 σ) (fun v4 s5 => if v4 = 0 then (f_X1_passYear_156 (f_X1_passYear_97  n) x0 x2 x3 s5) else (wg_ga (wg_n Sc (wg_r Sc x2 2)) (s5 (wg_r Sc x2 2)) x3 (fun v6 => wg_ga (wg_n Sc (wg_r Sc x2 3)) (s5 (wg_r Sc x2 3)) x3 (fun v7 => wg_bd (f_X1_tryCase x0 v6 v7 s5) (fun _ s8 => f_X1_passYear_156 (f_X1_passYear_97  n) x0 x2 x3 s8)))))))) else (f_X1_passYear_156 (f_X1_passYear_97  n) x0 x2 x3 σ)))
def f_X1_passYear_10  : Nat → Nat → Nat → Int32 → wg_M → Option (Int32 × wg_M)
  | 0, _, _, _, _ => none
  | n + 1, x0, x1, x2, σ => if (σ x1 4) ≤ x2 then (f_X1_passYear_97  wg_N x0 (wg_r Sc (wg_r Sc x0 0) 3) (0 : Int32) σ) else (wg_ga (wg_n Sc (wg_r Sc x1 0)) (σ (wg_r Sc x1 0)) x2 (fun v1 => if v1 = (σ (wg_r Sc x0 1) 7) then (wg_ga (wg_n Sc (wg_r Sc x1 1)) (σ (wg_r Sc x1 1)) x2 (fun v2 => wg_ga (wg_n Sc (wg_r Sc x1 2)) (σ (wg_r Sc x1 2)) x2 (fun v3 => wg_ga (wg_n Sc (wg_r Sc x1 3)) (σ (wg_r Sc x1 3)) x2 (fun v4 => wg_bd (f_X1_canDo x0 v2 v3 v4 σ) (fun v5 s6 => if v5 = 0 then (f_X1_passYear_81 (f_X1_passYear_10  n) x0 x1 x2 s6) else (wg_ga (wg_n Sc (wg_r Sc x1 1)) (s6 (wg_r Sc x1 1)) x2 (fun v7 => wg_ga (wg_n Sc (wg_r Sc x1 2)) (s6 (wg_r Sc x1 2)) x2 (fun v8 => wg_ga (wg_n Sc (wg_r Sc x1 3)) (s6 (wg_r Sc x1 3)) x2 (fun v9 => wg_bd (f_X1_doTo x0 v7 v8 v9 s6) (fun _ s10 => f_X1_passYear_81 (f_X1_passYear_10  n) x0 x1 x2 s10)))))))))) else (f_X1_passYear_81 (f_X1_passYear_10  n) x0 x1 x2 σ)))
def f_X1_passYear  (x0 : Nat) (σ : wg_M) : Option (Int32 × wg_M) := f_X1_passYear_10  wg_N x0 (wg_r Sc (wg_r Sc x0 0) 4) (0 : Int32) σ
set_option maxRecDepth 20000 in
theorem g_X1_passYear_81 (l : Launch) (E : wg_E) (k10 : Nat → Nat → Int32 → wg_M → Option (Int32 × wg_M)) (x0 : Nat) (x1 : Nat) (x2 : Int32) (σ : wg_M) (z : Int32 × wg_M) (hx0 : wg_t Sc x0 = 3) (hx1 : wg_t Sc x1 = 6) (hk10 : ∀ (x0 : Nat) (x1 : Nat) (x2 : Int32) (σ : wg_M), wg_t Sc x0 = 3 → wg_t Sc x1 = 6 → k10 x0 x1 x2 σ = some z → wg_G l E Sc "WornWigs$Court" cX1_passYear 5 (some .int) rm_X1_passYear (some z.1) z.2 10 [some (.ref x0), some (.ref x1), some (.int x2), none, none] [] σ) (h : f_X1_passYear_81 k10 x0 x1 x2 σ = some z) : wg_G l E Sc "WornWigs$Court" cX1_passYear 5 (some .int) rm_X1_passYear (some z.1) z.2 81 [some (.ref x0), some (.ref x1), some (.int x2), none, none] [] σ := by
  refine wr_iinc (c0 := (1 : Int32)) (wg_da dt_X1_passYear 47 rfl) rfl (by decide) (by decide) h (fun v1 h => ?_)
  refine wr_goto 10 (wg_da dt_X1_passYear 48 rfl) (by decide) ?_
  exact wr_wk [true, true, true, false, false] (hk10 x0 x1 v1 σ hx0 hx1 h)
set_option maxRecDepth 20000 in
theorem g_X1_passYear_156 (l : Launch) (E : wg_E) (k97 : Nat → Nat → Int32 → wg_M → Option (Int32 × wg_M)) (x0 : Nat) (x2 : Nat) (x3 : Int32) (σ : wg_M) (z : Int32 × wg_M) (hx0 : wg_t Sc x0 = 3) (hx2 : wg_t Sc x2 = 6) (hk97 : ∀ (x0 : Nat) (x2 : Nat) (x3 : Int32) (σ : wg_M), wg_t Sc x0 = 3 → wg_t Sc x2 = 6 → k97 x0 x2 x3 σ = some z → wg_G l E Sc "WornWigs$Court" cX1_passYear 5 (some .int) rm_X1_passYear (some z.1) z.2 97 [some (.ref x0), none, some (.ref x2), some (.int x3), none] [] σ) (h : f_X1_passYear_156 k97 x0 x2 x3 σ = some z) : wg_G l E Sc "WornWigs$Court" cX1_passYear 5 (some .int) rm_X1_passYear (some z.1) z.2 156 [some (.ref x0), none, some (.ref x2), some (.int x3), none] [] σ := by
  refine wr_iinc (c0 := (1 : Int32)) (wg_da dt_X1_passYear 88 rfl) rfl (by decide) (by decide) h (fun v1 h => ?_)
  refine wr_goto 97 (wg_da dt_X1_passYear 89 rfl) (by decide) ?_
  exact wr_wk [true, false, true, true, false] (hk97 x0 x2 v1 σ hx0 hx2 h)
set_option maxRecDepth 20000 in
theorem g_X1_passYear_209 (l : Launch) (E : wg_E) (k167 : Nat → Int32 → Int32 → wg_M → Option (Int32 × wg_M)) (x0 : Nat) (x3 : Int32) (x4 : Int32) (σ : wg_M) (z : Int32 × wg_M) (hx0 : wg_t Sc x0 = 3) (hk167 : ∀ (x0 : Nat) (x3 : Int32) (x4 : Int32) (σ : wg_M), wg_t Sc x0 = 3 → k167 x0 x3 x4 σ = some z → wg_G l E Sc "WornWigs$Court" cX1_passYear 5 (some .int) rm_X1_passYear (some z.1) z.2 167 [some (.ref x0), none, none, some (.int x3), some (.int x4)] [] σ) (h : f_X1_passYear_209 k167 x0 x3 x4 σ = some z) : wg_G l E Sc "WornWigs$Court" cX1_passYear 5 (some .int) rm_X1_passYear (some z.1) z.2 209 [some (.ref x0), none, none, some (.int x3), some (.int x4)] [] σ := by
  refine wr_iinc (c0 := (1 : Int32)) (wg_da dt_X1_passYear 112 rfl) rfl (by decide) (by decide) h (fun v1 h => ?_)
  refine wr_goto 167 (wg_da dt_X1_passYear 113 rfl) (by decide) ?_
  exact wr_wk [true, false, false, true, true] (hk167 x0 x3 v1 σ hx0 h)
set_option maxRecDepth 20000 in
theorem g_X1_passYear_218 (l : Launch) (E : wg_E)  (z : Int32 × wg_M) : ∀ (n : Nat) (x0 : Nat) (x3 : Int32) (x4 : Int32) (σ : wg_M) (hx0 : wg_t Sc x0 = 3) (h : f_X1_passYear_218  n x0 x3 x4 σ = some z), wg_G l E Sc "WornWigs$Court" cX1_passYear 5 (some .int) rm_X1_passYear (some z.1) z.2 218 [some (.ref x0), none, none, some (.int x3), some (.int x4)] [] σ := by
  intro n
  induction n with
  | zero => intro x0 x3 x4 σ hx0 h; cases h
  | succ n ih =>
    intro x0 x3 x4 σ hx0 h
    refine wr_iload (wg_da dt_X1_passYear 116 rfl) rfl ?_
    refine wr_aload_n (wg_da dt_X1_passYear 117 rfl) rfl ?_
    refine wr_getR wf_X1_32 (wg_da dt_X1_passYear 118 rfl) hx0 ?_
    refine wr_getI wf_X1_252 (wg_da dt_X1_passYear 119 rfl) (wg_ty Sc_ok 1 2 11 hx0 rfl (by decide)).2 ?_
    refine wr_icmp_ge 242 (wg_da dt_X1_passYear 120 rfl) (by decide) h (fun h => ?_) (fun h => ?_)
    · refine wr_aload_n (wg_da dt_X1_passYear 126 rfl) rfl ?_
      refine wr_getR wf_X1_27 (wg_da dt_X1_passYear 127 rfl) hx0 ?_
      refine wr_dup (wg_da dt_X1_passYear 128 rfl) ?_
      refine wr_getI wf_X1_64 (wg_da dt_X1_passYear 129 rfl) (wg_ty Sc_ok 1 1 2 hx0 rfl (by decide)).2 ?_
      refine wr_iconst (1 : Int32) (wg_da dt_X1_passYear 130 rfl) (by decide) ?_
      refine wr_iadd (wg_da dt_X1_passYear 131 rfl) ?_
      refine wr_putI wfp_X1_64 (wg_da dt_X1_passYear 132 rfl) (wg_ty Sc_ok 1 1 2 hx0 rfl (by decide)).2 h (fun s1 h => ?_)
      refine wr_iload_n (wg_da dt_X1_passYear 133 rfl) rfl ?_
      exact wr_iret (wg_da dt_X1_passYear 134 rfl) h
    · refine wr_aload_n (wg_da dt_X1_passYear 121 rfl) rfl ?_
      refine wr_iload (wg_da dt_X1_passYear 122 rfl) rfl ?_
      refine wr_callVv [.int x4] [] (wg_da dt_X1_passYear 123 rfl) ⟨wq_4_57, wq_4_59, wq_p1_13⟩ hx0 ⟨rfl, by decide⟩ wy_X1_wearOut (fun q hq => m_X1_wearOut l E x0 x4 hx0 _ q hq) rfl rfl (Nat.le_of_ble_eq_true rfl) ⟨rfl, rfl, by decide, by decide⟩ h (fun _ s2 h => ?_)
      refine wr_iinc (c0 := (1 : Int32)) (wg_da dt_X1_passYear 124 rfl) rfl (by decide) (by decide) h (fun v3 h => ?_)
      refine wr_goto 218 (wg_da dt_X1_passYear 125 rfl) (by decide) ?_
      exact wr_wk [true, false, false, true, true] (ih x0 x3 v3 s2 hx0 h)
set_option maxRecDepth 20000 in
theorem g_X1_passYear_167 (l : Launch) (E : wg_E)  (z : Int32 × wg_M) : ∀ (n : Nat) (x0 : Nat) (x3 : Int32) (x4 : Int32) (σ : wg_M) (hx0 : wg_t Sc x0 = 3) (h : f_X1_passYear_167  n x0 x3 x4 σ = some z), wg_G l E Sc "WornWigs$Court" cX1_passYear 5 (some .int) rm_X1_passYear (some z.1) z.2 167 [some (.ref x0), none, none, some (.int x3), some (.int x4)] [] σ := by
  intro n
  induction n with
  | zero => intro x0 x3 x4 σ hx0 h; cases h
  | succ n ih =>
    intro x0 x3 x4 σ hx0 h
    refine wr_iload (wg_da dt_X1_passYear 94 rfl) rfl ?_
    refine wr_aload_n (wg_da dt_X1_passYear 95 rfl) rfl ?_
    refine wr_getR wf_X1_37 (wg_da dt_X1_passYear 96 rfl) hx0 ?_
    refine wr_getI wf_X1_245 (wg_da dt_X1_passYear 97 rfl) (wg_ty Sc_ok 1 3 4 hx0 rfl (by decide)).2 ?_
    refine wr_icmp_ge 215 (wg_da dt_X1_passYear 98 rfl) (by decide) h (fun h => ?_) (fun h => ?_)
    · refine wr_iconst (0 : Int32) (wg_da dt_X1_passYear 114 rfl) (by decide) ?_
      refine wr_istore (wg_da dt_X1_passYear 115 rfl) (by decide) ?_
      exact wr_wk [true, false, false, true, true] (g_X1_passYear_218 l E  _  wg_N x0 x3 (0 : Int32) σ hx0 h)
    · refine wr_aload_n (wg_da dt_X1_passYear 99 rfl) rfl ?_
      refine wr_getR wf_X1_37 (wg_da dt_X1_passYear 100 rfl) hx0 ?_
      refine wr_iload (wg_da dt_X1_passYear 101 rfl) rfl ?_
      refine wr_callVi [.int x4] [] (wg_da dt_X1_passYear 102 rfl) ⟨wq_3_125, wq_3_126, wq_3_127⟩ (wg_ty Sc_ok 1 3 4 hx0 rfl (by decide)).2 ⟨rfl, by decide⟩ wy_X2_lives (fun q hq => m_X2_lives l E (wg_r Sc x0 3) x4 (wg_ty Sc_ok 1 3 4 hx0 rfl (by decide)).2 _ q hq) rfl rfl (Nat.le_of_ble_eq_true rfl) ⟨rfl, rfl, by decide, by decide⟩ h (fun v1 s2 h => ?_)
      refine wr_if_eq 209 (wg_da dt_X1_passYear 103 rfl) (by decide) h (fun h => ?_) (fun h => ?_)
      · exact wr_wk [true, false, false, true, true] (g_X1_passYear_209 l E (f_X1_passYear_167  n) x0 x3 x4 s2 _ hx0 (fun x0 x3 x4 σ hx0 h => ih x0 x3 x4 σ hx0 h) h)
      · refine wr_aload_n (wg_da dt_X1_passYear 104 rfl) rfl ?_
        refine wr_iload (wg_da dt_X1_passYear 105 rfl) rfl ?_
        refine wr_callVi [.int x4] [] (wg_da dt_X1_passYear 106 rfl) ⟨wq_4_34, wq_4_36, wq_p1_11⟩ hx0 ⟨rfl, by decide⟩ wy_X1_growsOldAndDies (fun q hq => m_X1_growsOldAndDies l E x0 x4 hx0 _ q hq) rfl rfl (Nat.le_of_ble_eq_true rfl) ⟨rfl, rfl, by decide, by decide⟩ h (fun v3 s4 h => ?_)
        refine wr_if_eq 209 (wg_da dt_X1_passYear 107 rfl) (by decide) h (fun h => ?_) (fun h => ?_)
        · exact wr_wk [true, false, false, true, true] (g_X1_passYear_209 l E (f_X1_passYear_167  n) x0 x3 x4 s4 _ hx0 (fun x0 x3 x4 σ hx0 h => ih x0 x3 x4 σ hx0 h) h)
        · refine wr_aload_n (wg_da dt_X1_passYear 108 rfl) rfl ?_
          refine wr_iload (wg_da dt_X1_passYear 109 rfl) rfl ?_
          refine wr_callVv [.int x4] [] (wg_da dt_X1_passYear 110 rfl) ⟨wq_4_49, wq_4_51, wq_p1_12⟩ hx0 ⟨rfl, by decide⟩ wy_X1_passOn (fun q hq => m_X1_passOn l E x0 x4 hx0 _ q hq) rfl rfl (Nat.le_of_ble_eq_true rfl) ⟨rfl, rfl, by decide, by decide⟩ h (fun _ s5 h => ?_)
          refine wr_iinc (c0 := (1 : Int32)) (wg_da dt_X1_passYear 111 rfl) rfl (by decide) (by decide) h (fun v6 h => ?_)
          exact wr_wk [true, false, false, true, true] (g_X1_passYear_209 l E (f_X1_passYear_167  n) x0 v6 x4 s5 _ hx0 (fun x0 x3 x4 σ hx0 h => ih x0 x3 x4 σ hx0 h) h)
set_option maxRecDepth 20000 in
theorem g_X1_passYear_97 (l : Launch) (E : wg_E)  (z : Int32 × wg_M) : ∀ (n : Nat) (x0 : Nat) (x2 : Nat) (x3 : Int32) (σ : wg_M) (hx0 : wg_t Sc x0 = 3) (hx2 : wg_t Sc x2 = 6) (h : f_X1_passYear_97  n x0 x2 x3 σ = some z), wg_G l E Sc "WornWigs$Court" cX1_passYear 5 (some .int) rm_X1_passYear (some z.1) z.2 97 [some (.ref x0), none, some (.ref x2), some (.int x3), none] [] σ := by
  intro n
  induction n with
  | zero => intro x0 x2 x3 σ hx0 hx2 h; cases h
  | succ n ih =>
    intro x0 x2 x3 σ hx0 hx2 h
    refine wr_iload_n (wg_da dt_X1_passYear 55 rfl) rfl ?_
    refine wr_aload_n (wg_da dt_X1_passYear 56 rfl) rfl ?_
    refine wr_getI wf_X1_59 (wg_da dt_X1_passYear 57 rfl) hx2 ?_
    refine wr_icmp_ge 162 (wg_da dt_X1_passYear 58 rfl) (by decide) h (fun h => ?_) (fun h => ?_)
    · refine wr_iconst (0 : Int32) (wg_da dt_X1_passYear 90 rfl) (by decide) ?_
      refine wr_istore_n (wg_da dt_X1_passYear 91 rfl) (by decide) ?_
      refine wr_iconst (0 : Int32) (wg_da dt_X1_passYear 92 rfl) (by decide) ?_
      refine wr_istore (wg_da dt_X1_passYear 93 rfl) (by decide) ?_
      exact wr_wk [true, false, false, true, true] (g_X1_passYear_167 l E  _  wg_N x0 (0 : Int32) (0 : Int32) σ hx0 h)
    · refine wr_aload_n (wg_da dt_X1_passYear 59 rfl) rfl ?_
      refine wr_getR wf_X1_219 (wg_da dt_X1_passYear 60 rfl) hx2 ?_
      refine wr_iload_n (wg_da dt_X1_passYear 61 rfl) rfl ?_
      refine wr_iald (wg_da dt_X1_passYear 62 rfl) (wg_ty Sc_ok 4 0 0 hx2 rfl (by decide)).2 h (fun v1 h => ?_)
      refine wr_aload_n (wg_da dt_X1_passYear 63 rfl) rfl ?_
      refine wr_getR wf_X1_27 (wg_da dt_X1_passYear 64 rfl) hx0 ?_
      refine wr_getI wf_X1_64 (wg_da dt_X1_passYear 65 rfl) (wg_ty Sc_ok 1 1 2 hx0 rfl (by decide)).2 ?_
      refine wr_icmp_ne 156 (wg_da dt_X1_passYear 66 rfl) (by decide) h (fun h => ?_) (fun h => ?_)
      · refine wr_aload_n (wg_da dt_X1_passYear 67 rfl) rfl ?_
        refine wr_aload_n (wg_da dt_X1_passYear 68 rfl) rfl ?_
        refine wr_getR wf_X1_224 (wg_da dt_X1_passYear 69 rfl) hx2 ?_
        refine wr_iload_n (wg_da dt_X1_passYear 70 rfl) rfl ?_
        refine wr_iald (wg_da dt_X1_passYear 71 rfl) (wg_ty Sc_ok 4 2 0 hx2 rfl (by decide)).2 h (fun v2 h => ?_)
        refine wr_aload_n (wg_da dt_X1_passYear 72 rfl) rfl ?_
        refine wr_getR wf_X1_227 (wg_da dt_X1_passYear 73 rfl) hx2 ?_
        refine wr_iload_n (wg_da dt_X1_passYear 74 rfl) rfl ?_
        refine wr_iald (wg_da dt_X1_passYear 75 rfl) (wg_ty Sc_ok 4 3 0 hx2 rfl (by decide)).2 h (fun v3 h => ?_)
        refine wr_callVi [.int v2, .int v3] [] (wg_da dt_X1_passYear 76 rfl) ⟨wq_4_32, wq_3_121, wq_3_122⟩ hx0 ⟨rfl, by decide⟩ wy_X1_canTry (fun q hq => m_X1_canTry l E x0 v2 v3 hx0 _ q hq) rfl rfl (Nat.le_of_ble_eq_true rfl) ⟨rfl, rfl, by decide, by decide⟩ h (fun v4 s5 h => ?_)
        refine wr_if_eq 156 (wg_da dt_X1_passYear 77 rfl) (by decide) h (fun h => ?_) (fun h => ?_)
        · exact wr_wk [true, false, true, true, false] (g_X1_passYear_156 l E (f_X1_passYear_97  n) x0 x2 x3 s5 _ hx0 hx2 (fun x0 x2 x3 σ hx0 hx2 h => ih x0 x2 x3 σ hx0 hx2 h) h)
        · refine wr_aload_n (wg_da dt_X1_passYear 78 rfl) rfl ?_
          refine wr_aload_n (wg_da dt_X1_passYear 79 rfl) rfl ?_
          refine wr_getR wf_X1_224 (wg_da dt_X1_passYear 80 rfl) hx2 ?_
          refine wr_iload_n (wg_da dt_X1_passYear 81 rfl) rfl ?_
          refine wr_iald (wg_da dt_X1_passYear 82 rfl) (wg_ty Sc_ok 4 2 0 hx2 rfl (by decide)).2 h (fun v6 h => ?_)
          refine wr_aload_n (wg_da dt_X1_passYear 83 rfl) rfl ?_
          refine wr_getR wf_X1_227 (wg_da dt_X1_passYear 84 rfl) hx2 ?_
          refine wr_iload_n (wg_da dt_X1_passYear 85 rfl) rfl ?_
          refine wr_iald (wg_da dt_X1_passYear 86 rfl) (wg_ty Sc_ok 4 3 0 hx2 rfl (by decide)).2 h (fun v7 h => ?_)
          refine wr_callVv [.int v6, .int v7] [] (wg_da dt_X1_passYear 87 rfl) ⟨wq_4_33, wq_3_157, wq_3_158⟩ hx0 ⟨rfl, by decide⟩ wy_X1_tryCase (fun q hq => m_X1_tryCase l E x0 v6 v7 hx0 _ q hq) rfl rfl (Nat.le_of_ble_eq_true rfl) ⟨rfl, rfl, by decide, by decide⟩ h (fun _ s8 h => ?_)
          exact wr_wk [true, false, true, true, false] (g_X1_passYear_156 l E (f_X1_passYear_97  n) x0 x2 x3 s8 _ hx0 hx2 (fun x0 x2 x3 σ hx0 hx2 h => ih x0 x2 x3 σ hx0 hx2 h) h)
      · exact wr_wk [true, false, true, true, false] (g_X1_passYear_156 l E (f_X1_passYear_97  n) x0 x2 x3 σ _ hx0 hx2 (fun x0 x2 x3 σ hx0 hx2 h => ih x0 x2 x3 σ hx0 hx2 h) h)
set_option maxRecDepth 20000 in
theorem g_X1_passYear_10 (l : Launch) (E : wg_E)  (z : Int32 × wg_M) : ∀ (n : Nat) (x0 : Nat) (x1 : Nat) (x2 : Int32) (σ : wg_M) (hx0 : wg_t Sc x0 = 3) (hx1 : wg_t Sc x1 = 6) (h : f_X1_passYear_10  n x0 x1 x2 σ = some z), wg_G l E Sc "WornWigs$Court" cX1_passYear 5 (some .int) rm_X1_passYear (some z.1) z.2 10 [some (.ref x0), some (.ref x1), some (.int x2), none, none] [] σ := by
  intro n
  induction n with
  | zero => intro x0 x1 x2 σ hx0 hx1 h; cases h
  | succ n ih =>
    intro x0 x1 x2 σ hx0 hx1 h
    refine wr_iload_n (wg_da dt_X1_passYear 6 rfl) rfl ?_
    refine wr_aload_n (wg_da dt_X1_passYear 7 rfl) rfl ?_
    refine wr_getI wf_X1_59 (wg_da dt_X1_passYear 8 rfl) hx1 ?_
    refine wr_icmp_ge 87 (wg_da dt_X1_passYear 9 rfl) (by decide) h (fun h => ?_) (fun h => ?_)
    · refine wr_aload_n (wg_da dt_X1_passYear 49 rfl) rfl ?_
      refine wr_getR wf_X1_18 (wg_da dt_X1_passYear 50 rfl) hx0 ?_
      refine wr_getR wf_X1_236 (wg_da dt_X1_passYear 51 rfl) (wg_ty Sc_ok 1 0 12 hx0 rfl (by decide)).2 ?_
      refine wr_astore_n (wg_da dt_X1_passYear 52 rfl) (by decide) ?_
      refine wr_iconst (0 : Int32) (wg_da dt_X1_passYear 53 rfl) (by decide) ?_
      refine wr_istore_n (wg_da dt_X1_passYear 54 rfl) (by decide) ?_
      exact wr_wk [true, false, true, true, false] (g_X1_passYear_97 l E  _  wg_N x0 (wg_r Sc (wg_r Sc x0 0) 3) (0 : Int32) σ hx0 (wg_ty Sc_ok 10 3 6 (wg_ty Sc_ok 1 0 12 hx0 rfl (by decide)).2 rfl (by decide)).2 h)
    · refine wr_aload_n (wg_da dt_X1_passYear 10 rfl) rfl ?_
      refine wr_getR wf_X1_219 (wg_da dt_X1_passYear 11 rfl) hx1 ?_
      refine wr_iload_n (wg_da dt_X1_passYear 12 rfl) rfl ?_
      refine wr_iald (wg_da dt_X1_passYear 13 rfl) (wg_ty Sc_ok 4 0 0 hx1 rfl (by decide)).2 h (fun v1 h => ?_)
      refine wr_aload_n (wg_da dt_X1_passYear 14 rfl) rfl ?_
      refine wr_getR wf_X1_27 (wg_da dt_X1_passYear 15 rfl) hx0 ?_
      refine wr_getI wf_X1_64 (wg_da dt_X1_passYear 16 rfl) (wg_ty Sc_ok 1 1 2 hx0 rfl (by decide)).2 ?_
      refine wr_icmp_ne 81 (wg_da dt_X1_passYear 17 rfl) (by decide) h (fun h => ?_) (fun h => ?_)
      · refine wr_aload_n (wg_da dt_X1_passYear 18 rfl) rfl ?_
        refine wr_aload_n (wg_da dt_X1_passYear 19 rfl) rfl ?_
        refine wr_getR wf_X1_221 (wg_da dt_X1_passYear 20 rfl) hx1 ?_
        refine wr_iload_n (wg_da dt_X1_passYear 21 rfl) rfl ?_
        refine wr_iald (wg_da dt_X1_passYear 22 rfl) (wg_ty Sc_ok 4 1 0 hx1 rfl (by decide)).2 h (fun v2 h => ?_)
        refine wr_aload_n (wg_da dt_X1_passYear 23 rfl) rfl ?_
        refine wr_getR wf_X1_224 (wg_da dt_X1_passYear 24 rfl) hx1 ?_
        refine wr_iload_n (wg_da dt_X1_passYear 25 rfl) rfl ?_
        refine wr_iald (wg_da dt_X1_passYear 26 rfl) (wg_ty Sc_ok 4 2 0 hx1 rfl (by decide)).2 h (fun v3 h => ?_)
        refine wr_aload_n (wg_da dt_X1_passYear 27 rfl) rfl ?_
        refine wr_getR wf_X1_227 (wg_da dt_X1_passYear 28 rfl) hx1 ?_
        refine wr_iload_n (wg_da dt_X1_passYear 29 rfl) rfl ?_
        refine wr_iald (wg_da dt_X1_passYear 30 rfl) (wg_ty Sc_ok 4 3 0 hx1 rfl (by decide)).2 h (fun v4 h => ?_)
        refine wr_callVi [.int v2, .int v3, .int v4] [] (wg_da dt_X1_passYear 31 rfl) ⟨wq_4_30, wq_3_228, wq_3_229⟩ hx0 ⟨rfl, by decide⟩ wy_X1_canDo (fun q hq => m_X1_canDo l E x0 v2 v3 v4 hx0 _ q hq) rfl rfl (Nat.le_of_ble_eq_true rfl) ⟨rfl, rfl, by decide, by decide⟩ h (fun v5 s6 h => ?_)
        refine wr_if_eq 81 (wg_da dt_X1_passYear 32 rfl) (by decide) h (fun h => ?_) (fun h => ?_)
        · exact wr_wk [true, true, true, false, false] (g_X1_passYear_81 l E (f_X1_passYear_10  n) x0 x1 x2 s6 _ hx0 hx1 (fun x0 x1 x2 σ hx0 hx1 h => ih x0 x1 x2 σ hx0 hx1 h) h)
        · refine wr_aload_n (wg_da dt_X1_passYear 33 rfl) rfl ?_
          refine wr_aload_n (wg_da dt_X1_passYear 34 rfl) rfl ?_
          refine wr_getR wf_X1_221 (wg_da dt_X1_passYear 35 rfl) hx1 ?_
          refine wr_iload_n (wg_da dt_X1_passYear 36 rfl) rfl ?_
          refine wr_iald (wg_da dt_X1_passYear 37 rfl) (wg_ty Sc_ok 4 1 0 hx1 rfl (by decide)).2 h (fun v7 h => ?_)
          refine wr_aload_n (wg_da dt_X1_passYear 38 rfl) rfl ?_
          refine wr_getR wf_X1_224 (wg_da dt_X1_passYear 39 rfl) hx1 ?_
          refine wr_iload_n (wg_da dt_X1_passYear 40 rfl) rfl ?_
          refine wr_iald (wg_da dt_X1_passYear 41 rfl) (wg_ty Sc_ok 4 2 0 hx1 rfl (by decide)).2 h (fun v8 h => ?_)
          refine wr_aload_n (wg_da dt_X1_passYear 42 rfl) rfl ?_
          refine wr_getR wf_X1_227 (wg_da dt_X1_passYear 43 rfl) hx1 ?_
          refine wr_iload_n (wg_da dt_X1_passYear 44 rfl) rfl ?_
          refine wr_iald (wg_da dt_X1_passYear 45 rfl) (wg_ty Sc_ok 4 3 0 hx1 rfl (by decide)).2 h (fun v9 h => ?_)
          refine wr_callVv [.int v7, .int v8, .int v9] [] (wg_da dt_X1_passYear 46 rfl) ⟨wq_4_31, wq_4_1, wq_4_2⟩ hx0 ⟨rfl, by decide⟩ wy_X1_doTo (fun q hq => m_X1_doTo l E x0 v7 v8 v9 hx0 _ q hq) rfl rfl (Nat.le_of_ble_eq_true rfl) ⟨rfl, rfl, by decide, by decide⟩ h (fun _ s10 h => ?_)
          exact wr_wk [true, true, true, false, false] (g_X1_passYear_81 l E (f_X1_passYear_10  n) x0 x1 x2 s10 _ hx0 hx1 (fun x0 x1 x2 σ hx0 hx1 h => ih x0 x1 x2 σ hx0 hx1 h) h)
      · exact wr_wk [true, true, true, false, false] (g_X1_passYear_81 l E (f_X1_passYear_10  n) x0 x1 x2 σ _ hx0 hx1 (fun x0 x1 x2 σ hx0 hx1 h => ih x0 x1 x2 σ hx0 hx1 h) h)
set_option maxRecDepth 20000 in
theorem g_X1_passYear_e (l : Launch) (E : wg_E)  (x0 : Nat) (σ : wg_M) (z : Int32 × wg_M) (hx0 : wg_t Sc x0 = 3) (h : f_X1_passYear  x0 σ = some z) : wg_G l E Sc "WornWigs$Court" cX1_passYear 5 (some .int) rm_X1_passYear (some z.1) z.2 0 [some (.ref x0), none, none, none, none] [] σ := by
  refine wr_aload_n (wg_da dt_X1_passYear 0 rfl) rfl ?_
  refine wr_getR wf_X1_18 (wg_da dt_X1_passYear 1 rfl) hx0 ?_
  refine wr_getR wf_X1_216 (wg_da dt_X1_passYear 2 rfl) (wg_ty Sc_ok 1 0 12 hx0 rfl (by decide)).2 ?_
  refine wr_astore_n (wg_da dt_X1_passYear 3 rfl) (by decide) ?_
  refine wr_iconst (0 : Int32) (wg_da dt_X1_passYear 4 rfl) (by decide) ?_
  refine wr_istore_n (wg_da dt_X1_passYear 5 rfl) (by decide) ?_
  exact wr_wk [true, true, true, false, false] (g_X1_passYear_10 l E  _  wg_N x0 (wg_r Sc (wg_r Sc x0 0) 4) (0 : Int32) σ hx0 (wg_ty Sc_ok 10 4 6 (wg_ty Sc_ok 1 0 12 hx0 rfl (by decide)).2 rfl (by decide)).2 h)
theorem m_X1_passYear (l : Launch) (E : wg_E) (x0 : Nat) (hx0 : wg_t Sc x0 = 3) (σ : wg_M) (q : Int32 × wg_M) (h : f_X1_passYear x0 σ = some q) : wg_MG l E Sc yX1_passYear cX1_passYear 5 (some .int) rm_X1_passYear [.ref x0] σ (some q.1) q.2 :=
  wg_met [.ref x0] (plainFor_of_name (by decide)) (Nat.le_of_ble_eq_true rfl) (g_X1_passYear_e l E x0 σ q hx0 h)
abbrev rm_X2_add : Room := { frames := 0, cells := 0, slots := 0, locals := 0 }
def tb_X2_add : List (Nat × Instr × Nat) := [(0, .aload_n 0, 1), (1, .getfield 31, 3), (4, .bipush 10, 2), (6, .if_icmp .lt 5, 3), (9, .iconst (-1), 1), (10, .ireturn, 1), (11, .aload_n 0, 1), (12, .getfield 9, 3), (15, .aload_n 0, 1), (16, .getfield 31, 3), (19, .iload_n 1, 1), (20, .iastore, 1), (21, .aload_n 0, 1), (22, .getfield 15, 3), (25, .aload_n 0, 1), (26, .getfield 31, 3), (29, .iload_n 2, 1), (30, .iastore, 1), (31, .aload_n 0, 1), (32, .getfield 18, 3), (35, .aload_n 0, 1), (36, .getfield 31, 3), (39, .iconst (-1), 1), (40, .iastore, 1), (41, .aload_n 0, 1), (42, .getfield 21, 3), (45, .aload_n 0, 1), (46, .getfield 31, 3), (49, .iconst 0, 1), (50, .iastore, 1), (51, .aload_n 0, 1), (52, .getfield 24, 3), (55, .aload_n 0, 1), (56, .getfield 31, 3), (59, .iconst 0, 1), (60, .iastore, 1), (61, .aload_n 0, 1), (62, .dup, 1), (63, .getfield 31, 3), (66, .iconst 1, 1), (67, .iadd, 1), (68, .putfield 31, 3), (71, .aload_n 0, 1), (72, .getfield 31, 3), (75, .iconst 1, 1), (76, .isub, 1), (77, .ireturn, 1)]
theorem dt_X2_add : wg_dc cX2_add tb_X2_add := by unfold wg_dc; decide +kernel
def f_X2_add  (x0 : Nat) (x1 : Int32) (x2 : Int32) (σ : wg_M) : Option (Int32 × wg_M) := if (σ x0 5) < (10 : Int32) then (wg_sa (wg_n Sc (wg_r Sc x0 0)) σ (wg_r Sc x0 0) (σ x0 5) x1 (fun s1 => wg_sa (wg_n Sc (wg_r Sc x0 1)) s1 (wg_r Sc x0 1) (s1 x0 5) x2 (fun s2 => wg_sa (wg_n Sc (wg_r Sc x0 2)) s2 (wg_r Sc x0 2) (s2 x0 5) (-1 : Int32) (fun s3 => wg_sa (wg_n Sc (wg_r Sc x0 3)) s3 (wg_r Sc x0 3) (s3 x0 5) (0 : Int32) (fun s4 => wg_sa (wg_n Sc (wg_r Sc x0 4)) s4 (wg_r Sc x0 4) (s4 x0 5) (0 : Int32) (fun s5 => wg_st s5 x0 5 ((s5 x0 5) + (1 : Int32)) (fun s6 => some ((s6 x0 5) - (1 : Int32), s6)))))))) else (some ((-1 : Int32), σ))
set_option maxRecDepth 20000 in
theorem g_X2_add_e (l : Launch) (E : wg_E)  (x0 : Nat) (x1 : Int32) (x2 : Int32) (σ : wg_M) (z : Int32 × wg_M) (hx0 : wg_t Sc x0 = 4) (h : f_X2_add  x0 x1 x2 σ = some z) : wg_G l E Sc "WornWigs$Judges" cX2_add 3 (some .int) rm_X2_add (some z.1) z.2 0 [some (.ref x0), some (.int x1), some (.int x2)] [] σ := by
  refine wr_aload_n (wg_da dt_X2_add 0 rfl) rfl ?_
  refine wr_getI wf_X2_31 (wg_da dt_X2_add 1 rfl) hx0 ?_
  refine wr_bipush (10 : Int32) (wg_da dt_X2_add 2 rfl) (by decide) ?_
  refine wr_icmp_lt 11 (wg_da dt_X2_add 3 rfl) (by decide) h (fun h => ?_) (fun h => ?_)
  · refine wr_aload_n (wg_da dt_X2_add 6 rfl) rfl ?_
    refine wr_getR wf_X2_9 (wg_da dt_X2_add 7 rfl) hx0 ?_
    refine wr_aload_n (wg_da dt_X2_add 8 rfl) rfl ?_
    refine wr_getI wf_X2_31 (wg_da dt_X2_add 9 rfl) hx0 ?_
    refine wr_iload_n (wg_da dt_X2_add 10 rfl) rfl ?_
    refine wr_iast (wg_da dt_X2_add 11 rfl) (wg_ty Sc_ok 2 0 0 hx0 rfl (by decide)).2 h (fun s1 h => ?_)
    refine wr_aload_n (wg_da dt_X2_add 12 rfl) rfl ?_
    refine wr_getR wf_X2_15 (wg_da dt_X2_add 13 rfl) hx0 ?_
    refine wr_aload_n (wg_da dt_X2_add 14 rfl) rfl ?_
    refine wr_getI wf_X2_31 (wg_da dt_X2_add 15 rfl) hx0 ?_
    refine wr_iload_n (wg_da dt_X2_add 16 rfl) rfl ?_
    refine wr_iast (wg_da dt_X2_add 17 rfl) (wg_ty Sc_ok 2 1 0 hx0 rfl (by decide)).2 h (fun s2 h => ?_)
    refine wr_aload_n (wg_da dt_X2_add 18 rfl) rfl ?_
    refine wr_getR wf_X2_18 (wg_da dt_X2_add 19 rfl) hx0 ?_
    refine wr_aload_n (wg_da dt_X2_add 20 rfl) rfl ?_
    refine wr_getI wf_X2_31 (wg_da dt_X2_add 21 rfl) hx0 ?_
    refine wr_iconst (-1 : Int32) (wg_da dt_X2_add 22 rfl) (by decide) ?_
    refine wr_iast (wg_da dt_X2_add 23 rfl) (wg_ty Sc_ok 2 2 0 hx0 rfl (by decide)).2 h (fun s3 h => ?_)
    refine wr_aload_n (wg_da dt_X2_add 24 rfl) rfl ?_
    refine wr_getR wf_X2_21 (wg_da dt_X2_add 25 rfl) hx0 ?_
    refine wr_aload_n (wg_da dt_X2_add 26 rfl) rfl ?_
    refine wr_getI wf_X2_31 (wg_da dt_X2_add 27 rfl) hx0 ?_
    refine wr_iconst (0 : Int32) (wg_da dt_X2_add 28 rfl) (by decide) ?_
    refine wr_iast (wg_da dt_X2_add 29 rfl) (wg_ty Sc_ok 2 3 0 hx0 rfl (by decide)).2 h (fun s4 h => ?_)
    refine wr_aload_n (wg_da dt_X2_add 30 rfl) rfl ?_
    refine wr_getR wf_X2_24 (wg_da dt_X2_add 31 rfl) hx0 ?_
    refine wr_aload_n (wg_da dt_X2_add 32 rfl) rfl ?_
    refine wr_getI wf_X2_31 (wg_da dt_X2_add 33 rfl) hx0 ?_
    refine wr_iconst (0 : Int32) (wg_da dt_X2_add 34 rfl) (by decide) ?_
    refine wr_iast (wg_da dt_X2_add 35 rfl) (wg_ty Sc_ok 2 4 0 hx0 rfl (by decide)).2 h (fun s5 h => ?_)
    refine wr_aload_n (wg_da dt_X2_add 36 rfl) rfl ?_
    refine wr_dup (wg_da dt_X2_add 37 rfl) ?_
    refine wr_getI wf_X2_31 (wg_da dt_X2_add 38 rfl) hx0 ?_
    refine wr_iconst (1 : Int32) (wg_da dt_X2_add 39 rfl) (by decide) ?_
    refine wr_iadd (wg_da dt_X2_add 40 rfl) ?_
    refine wr_putI wfp_X2_31 (wg_da dt_X2_add 41 rfl) hx0 h (fun s6 h => ?_)
    refine wr_aload_n (wg_da dt_X2_add 42 rfl) rfl ?_
    refine wr_getI wf_X2_31 (wg_da dt_X2_add 43 rfl) hx0 ?_
    refine wr_iconst (1 : Int32) (wg_da dt_X2_add 44 rfl) (by decide) ?_
    refine wr_isub (wg_da dt_X2_add 45 rfl) ?_
    exact wr_iret (wg_da dt_X2_add 46 rfl) h
  · refine wr_iconst (-1 : Int32) (wg_da dt_X2_add 4 rfl) (by decide) ?_
    exact wr_iret (wg_da dt_X2_add 5 rfl) h
theorem m_X2_add (l : Launch) (E : wg_E) (x0 : Nat) (x1 : Int32) (x2 : Int32) (hx0 : wg_t Sc x0 = 4) (σ : wg_M) (q : Int32 × wg_M) (h : f_X2_add x0 x1 x2 σ = some q) : wg_MG l E Sc yX2_add cX2_add 3 (some .int) rm_X2_add [.ref x0, .int x1, .int x2] σ (some q.1) q.2 :=
  wg_met [.ref x0, .int x1, .int x2] (plainFor_of_name (by decide)) (Nat.le_of_ble_eq_true rfl) (g_X2_add_e l E x0 x1 x2 σ q hx0 h)
abbrev rm_X3_copyFrom : Room := { frames := 2, cells := 0, slots := 0, locals := 61 }
def tb_X3_copyFrom : List (Nat × Instr × Nat) := [(0, .aload_n 1, 1), (1, .getfield 9, 3), (4, .aload_n 0, 1), (5, .getfield 9, 3), (8, .invokestatic 33, 3), (11, .aload_n 1, 1), (12, .getfield 15, 3), (15, .aload_n 0, 1), (16, .getfield 15, 3), (19, .invokestatic 33, 3), (22, .aload_n 0, 1), (23, .aload_n 1, 1), (24, .getfield 37, 3), (27, .putfield 37, 3), (30, .aload_n 1, 1), (31, .getfield 18, 3), (34, .aload_n 0, 1), (35, .getfield 18, 3), (38, .invokestatic 33, 3), (41, .aload_n 1, 1), (42, .getfield 21, 3), (45, .aload_n 0, 1), (46, .getfield 21, 3), (49, .invokestatic 33, 3), (52, .aload_n 1, 1), (53, .getfield 24, 3), (56, .aload_n 0, 1), (57, .getfield 24, 3), (60, .invokestatic 33, 3), (63, .aload_n 0, 1), (64, .aload_n 1, 1), (65, .getfield 41, 3), (68, .putfield 41, 3), (71, .return_, 1)]
theorem dt_X3_copyFrom : wg_dc cX3_copyFrom tb_X3_copyFrom := by unfold wg_dc; decide +kernel
def f_X3_copyFrom  (x0 : Nat) (x1 : Nat) (σ : wg_M) : Option (Int32 × wg_M) := wg_bd (f_X11_copyRow (wg_r Sc x1 0) (wg_r Sc x0 0) σ) (fun _ s1 => wg_bd (f_X11_copyRow (wg_r Sc x1 1) (wg_r Sc x0 1) s1) (fun _ s2 => wg_st s2 x0 2 (s2 x1 2) (fun s3 => wg_bd (f_X11_copyRow (wg_r Sc x1 3) (wg_r Sc x0 3) s3) (fun _ s4 => wg_bd (f_X11_copyRow (wg_r Sc x1 4) (wg_r Sc x0 4) s4) (fun _ s5 => wg_bd (f_X11_copyRow (wg_r Sc x1 5) (wg_r Sc x0 5) s5) (fun _ s6 => wg_st s6 x0 6 (s6 x1 6) (fun s7 => some (0, s7))))))))
set_option maxRecDepth 20000 in
theorem g_X3_copyFrom_e (l : Launch) (E : wg_E)  (x0 : Nat) (x1 : Nat) (σ : wg_M) (z : Int32 × wg_M) (hx0 : wg_t Sc x0 = 5) (hx1 : wg_t Sc x1 = 5) (h : f_X3_copyFrom  x0 x1 σ = some z) : wg_G l E Sc "WornWigs$Law" cX3_copyFrom 2 none rm_X3_copyFrom none z.2 0 [some (.ref x0), some (.ref x1)] [] σ := by
  refine wr_aload_n (wg_da dt_X3_copyFrom 0 rfl) rfl ?_
  refine wr_getR wf_X3_9 (wg_da dt_X3_copyFrom 1 rfl) hx1 ?_
  refine wr_aload_n (wg_da dt_X3_copyFrom 2 rfl) rfl ?_
  refine wr_getR wf_X3_9 (wg_da dt_X3_copyFrom 3 rfl) hx0 ?_
  refine wr_callNv [.ref (wg_r Sc x1 0), .ref (wg_r Sc x0 0)] [] (wg_da dt_X3_copyFrom 4 rfl) ⟨List.mem_of_getElem? (i := 16) rfl, wq_3_143⟩ wy_X11_copyRow (fun q hq => m_X11_copyRow l E (wg_r Sc x1 0) (wg_r Sc x0 0) (wg_ty Sc_ok 3 0 0 hx1 rfl (by decide)).2 (wg_ty Sc_ok 3 0 0 hx0 rfl (by decide)).2 _ q hq) rfl rfl (Nat.le_of_ble_eq_true rfl) ⟨rfl, rfl, by decide, by decide⟩ h (fun _ s1 h => ?_)
  refine wr_aload_n (wg_da dt_X3_copyFrom 5 rfl) rfl ?_
  refine wr_getR wf_X3_15 (wg_da dt_X3_copyFrom 6 rfl) hx1 ?_
  refine wr_aload_n (wg_da dt_X3_copyFrom 7 rfl) rfl ?_
  refine wr_getR wf_X3_15 (wg_da dt_X3_copyFrom 8 rfl) hx0 ?_
  refine wr_callNv [.ref (wg_r Sc x1 1), .ref (wg_r Sc x0 1)] [] (wg_da dt_X3_copyFrom 9 rfl) ⟨List.mem_of_getElem? (i := 16) rfl, wq_3_143⟩ wy_X11_copyRow (fun q hq => m_X11_copyRow l E (wg_r Sc x1 1) (wg_r Sc x0 1) (wg_ty Sc_ok 3 1 0 hx1 rfl (by decide)).2 (wg_ty Sc_ok 3 1 0 hx0 rfl (by decide)).2 _ q hq) rfl rfl (Nat.le_of_ble_eq_true rfl) ⟨rfl, rfl, by decide, by decide⟩ h (fun _ s2 h => ?_)
  refine wr_aload_n (wg_da dt_X3_copyFrom 10 rfl) rfl ?_
  refine wr_aload_n (wg_da dt_X3_copyFrom 11 rfl) rfl ?_
  refine wr_getI wf_X3_37 (wg_da dt_X3_copyFrom 12 rfl) hx1 ?_
  refine wr_putI wfp_X3_37 (wg_da dt_X3_copyFrom 13 rfl) hx0 h (fun s3 h => ?_)
  refine wr_aload_n (wg_da dt_X3_copyFrom 14 rfl) rfl ?_
  refine wr_getR wf_X3_18 (wg_da dt_X3_copyFrom 15 rfl) hx1 ?_
  refine wr_aload_n (wg_da dt_X3_copyFrom 16 rfl) rfl ?_
  refine wr_getR wf_X3_18 (wg_da dt_X3_copyFrom 17 rfl) hx0 ?_
  refine wr_callNv [.ref (wg_r Sc x1 3), .ref (wg_r Sc x0 3)] [] (wg_da dt_X3_copyFrom 18 rfl) ⟨List.mem_of_getElem? (i := 16) rfl, wq_3_143⟩ wy_X11_copyRow (fun q hq => m_X11_copyRow l E (wg_r Sc x1 3) (wg_r Sc x0 3) (wg_ty Sc_ok 3 3 0 hx1 rfl (by decide)).2 (wg_ty Sc_ok 3 3 0 hx0 rfl (by decide)).2 _ q hq) rfl rfl (Nat.le_of_ble_eq_true rfl) ⟨rfl, rfl, by decide, by decide⟩ h (fun _ s4 h => ?_)
  refine wr_aload_n (wg_da dt_X3_copyFrom 19 rfl) rfl ?_
  refine wr_getR wf_X3_21 (wg_da dt_X3_copyFrom 20 rfl) hx1 ?_
  refine wr_aload_n (wg_da dt_X3_copyFrom 21 rfl) rfl ?_
  refine wr_getR wf_X3_21 (wg_da dt_X3_copyFrom 22 rfl) hx0 ?_
  refine wr_callNv [.ref (wg_r Sc x1 4), .ref (wg_r Sc x0 4)] [] (wg_da dt_X3_copyFrom 23 rfl) ⟨List.mem_of_getElem? (i := 16) rfl, wq_3_143⟩ wy_X11_copyRow (fun q hq => m_X11_copyRow l E (wg_r Sc x1 4) (wg_r Sc x0 4) (wg_ty Sc_ok 3 4 0 hx1 rfl (by decide)).2 (wg_ty Sc_ok 3 4 0 hx0 rfl (by decide)).2 _ q hq) rfl rfl (Nat.le_of_ble_eq_true rfl) ⟨rfl, rfl, by decide, by decide⟩ h (fun _ s5 h => ?_)
  refine wr_aload_n (wg_da dt_X3_copyFrom 24 rfl) rfl ?_
  refine wr_getR wf_X3_24 (wg_da dt_X3_copyFrom 25 rfl) hx1 ?_
  refine wr_aload_n (wg_da dt_X3_copyFrom 26 rfl) rfl ?_
  refine wr_getR wf_X3_24 (wg_da dt_X3_copyFrom 27 rfl) hx0 ?_
  refine wr_callNv [.ref (wg_r Sc x1 5), .ref (wg_r Sc x0 5)] [] (wg_da dt_X3_copyFrom 28 rfl) ⟨List.mem_of_getElem? (i := 16) rfl, wq_3_143⟩ wy_X11_copyRow (fun q hq => m_X11_copyRow l E (wg_r Sc x1 5) (wg_r Sc x0 5) (wg_ty Sc_ok 3 5 0 hx1 rfl (by decide)).2 (wg_ty Sc_ok 3 5 0 hx0 rfl (by decide)).2 _ q hq) rfl rfl (Nat.le_of_ble_eq_true rfl) ⟨rfl, rfl, by decide, by decide⟩ h (fun _ s6 h => ?_)
  refine wr_aload_n (wg_da dt_X3_copyFrom 29 rfl) rfl ?_
  refine wr_aload_n (wg_da dt_X3_copyFrom 30 rfl) rfl ?_
  refine wr_getI wf_X3_41 (wg_da dt_X3_copyFrom 31 rfl) hx1 ?_
  refine wr_putI wfp_X3_41 (wg_da dt_X3_copyFrom 32 rfl) hx0 h (fun s7 h => ?_)
  exact wr_vret (wg_da dt_X3_copyFrom 33 rfl) h
theorem m_X3_copyFrom (l : Launch) (E : wg_E) (x0 : Nat) (x1 : Nat) (hx0 : wg_t Sc x0 = 5) (hx1 : wg_t Sc x1 = 5) (σ : wg_M) (q : Int32 × wg_M) (h : f_X3_copyFrom x0 x1 σ = some q) : wg_MG l E Sc yX3_copyFrom cX3_copyFrom 2 none rm_X3_copyFrom [.ref x0, .ref x1] σ none q.2 :=
  wg_met [.ref x0, .ref x1] (plainFor_of_name (by decide)) (Nat.le_of_ble_eq_true rfl) (g_X3_copyFrom_e l E x0 x1 σ q hx0 hx1 h)
abbrev rm_X3_clear : Room := { frames := 0, cells := 0, slots := 0, locals := 0 }
def tb_X3_clear : List (Nat × Instr × Nat) := [(0, .aload_n 0, 1), (1, .iconst 0, 1), (2, .putfield 37, 3), (5, .aload_n 0, 1), (6, .iconst 0, 1), (7, .putfield 41, 3), (10, .return_, 1)]
theorem dt_X3_clear : wg_dc cX3_clear tb_X3_clear := by unfold wg_dc; decide +kernel
def f_X3_clear  (x0 : Nat) (σ : wg_M) : Option (Int32 × wg_M) := wg_st σ x0 2 (0 : Int32) (fun s1 => wg_st s1 x0 6 (0 : Int32) (fun s2 => some (0, s2)))
set_option maxRecDepth 20000 in
theorem g_X3_clear_e (l : Launch) (E : wg_E)  (x0 : Nat) (σ : wg_M) (z : Int32 × wg_M) (hx0 : wg_t Sc x0 = 5) (h : f_X3_clear  x0 σ = some z) : wg_G l E Sc "WornWigs$Law" cX3_clear 1 none rm_X3_clear none z.2 0 [some (.ref x0)] [] σ := by
  refine wr_aload_n (wg_da dt_X3_clear 0 rfl) rfl ?_
  refine wr_iconst (0 : Int32) (wg_da dt_X3_clear 1 rfl) (by decide) ?_
  refine wr_putI wfp_X3_37 (wg_da dt_X3_clear 2 rfl) hx0 h (fun s1 h => ?_)
  refine wr_aload_n (wg_da dt_X3_clear 3 rfl) rfl ?_
  refine wr_iconst (0 : Int32) (wg_da dt_X3_clear 4 rfl) (by decide) ?_
  refine wr_putI wfp_X3_41 (wg_da dt_X3_clear 5 rfl) hx0 h (fun s2 h => ?_)
  exact wr_vret (wg_da dt_X3_clear 6 rfl) h
theorem m_X3_clear (l : Launch) (E : wg_E) (x0 : Nat) (hx0 : wg_t Sc x0 = 5) (σ : wg_M) (q : Int32 × wg_M) (h : f_X3_clear x0 σ = some q) : wg_MG l E Sc yX3_clear cX3_clear 1 none rm_X3_clear [.ref x0] σ none q.2 :=
  wg_met [.ref x0] (plainFor_of_name (by decide)) (Nat.le_of_ble_eq_true rfl) (g_X3_clear_e l E x0 σ q hx0 h)
abbrev rm_X3_put : Room := { frames := 0, cells := 0, slots := 0, locals := 0 }
def tb_X3_put : List (Nat × Instr × Nat) := [(0, .aload_n 0, 1), (1, .getfield 37, 3), (4, .sipush 400, 3), (7, .if_icmp .ge 33, 3), (10, .aload_n 0, 1), (11, .getfield 9, 3), (14, .aload_n 0, 1), (15, .getfield 37, 3), (18, .iload_n 1, 1), (19, .iastore, 1), (20, .aload_n 0, 1), (21, .getfield 15, 3), (24, .aload_n 0, 1), (25, .getfield 37, 3), (28, .iload_n 2, 1), (29, .iastore, 1), (30, .aload_n 0, 1), (31, .dup, 1), (32, .getfield 37, 3), (35, .iconst 1, 1), (36, .iadd, 1), (37, .putfield 37, 3), (40, .return_, 1)]
theorem dt_X3_put : wg_dc cX3_put tb_X3_put := by unfold wg_dc; decide +kernel
def f_X3_put  (x0 : Nat) (x1 : Int32) (x2 : Int32) (σ : wg_M) : Option (Int32 × wg_M) := if (400 : Int32) ≤ (σ x0 2) then (some (0, σ)) else (wg_sa (wg_n Sc (wg_r Sc x0 0)) σ (wg_r Sc x0 0) (σ x0 2) x1 (fun s1 => wg_sa (wg_n Sc (wg_r Sc x0 1)) s1 (wg_r Sc x0 1) (s1 x0 2) x2 (fun s2 => wg_st s2 x0 2 ((s2 x0 2) + (1 : Int32)) (fun s3 => some (0, s3)))))
set_option maxRecDepth 20000 in
theorem g_X3_put_e (l : Launch) (E : wg_E)  (x0 : Nat) (x1 : Int32) (x2 : Int32) (σ : wg_M) (z : Int32 × wg_M) (hx0 : wg_t Sc x0 = 5) (h : f_X3_put  x0 x1 x2 σ = some z) : wg_G l E Sc "WornWigs$Law" cX3_put 3 none rm_X3_put none z.2 0 [some (.ref x0), some (.int x1), some (.int x2)] [] σ := by
  refine wr_aload_n (wg_da dt_X3_put 0 rfl) rfl ?_
  refine wr_getI wf_X3_37 (wg_da dt_X3_put 1 rfl) hx0 ?_
  refine wr_sipush (400 : Int32) (wg_da dt_X3_put 2 rfl) (by decide) ?_
  refine wr_icmp_ge 40 (wg_da dt_X3_put 3 rfl) (by decide) h (fun h => ?_) (fun h => ?_)
  · exact wr_vret (wg_da dt_X3_put 22 rfl) h
  · refine wr_aload_n (wg_da dt_X3_put 4 rfl) rfl ?_
    refine wr_getR wf_X3_9 (wg_da dt_X3_put 5 rfl) hx0 ?_
    refine wr_aload_n (wg_da dt_X3_put 6 rfl) rfl ?_
    refine wr_getI wf_X3_37 (wg_da dt_X3_put 7 rfl) hx0 ?_
    refine wr_iload_n (wg_da dt_X3_put 8 rfl) rfl ?_
    refine wr_iast (wg_da dt_X3_put 9 rfl) (wg_ty Sc_ok 3 0 0 hx0 rfl (by decide)).2 h (fun s1 h => ?_)
    refine wr_aload_n (wg_da dt_X3_put 10 rfl) rfl ?_
    refine wr_getR wf_X3_15 (wg_da dt_X3_put 11 rfl) hx0 ?_
    refine wr_aload_n (wg_da dt_X3_put 12 rfl) rfl ?_
    refine wr_getI wf_X3_37 (wg_da dt_X3_put 13 rfl) hx0 ?_
    refine wr_iload_n (wg_da dt_X3_put 14 rfl) rfl ?_
    refine wr_iast (wg_da dt_X3_put 15 rfl) (wg_ty Sc_ok 3 1 0 hx0 rfl (by decide)).2 h (fun s2 h => ?_)
    refine wr_aload_n (wg_da dt_X3_put 16 rfl) rfl ?_
    refine wr_dup (wg_da dt_X3_put 17 rfl) ?_
    refine wr_getI wf_X3_37 (wg_da dt_X3_put 18 rfl) hx0 ?_
    refine wr_iconst (1 : Int32) (wg_da dt_X3_put 19 rfl) (by decide) ?_
    refine wr_iadd (wg_da dt_X3_put 20 rfl) ?_
    refine wr_putI wfp_X3_37 (wg_da dt_X3_put 21 rfl) hx0 h (fun s3 h => ?_)
    exact wr_vret (wg_da dt_X3_put 22 rfl) h
theorem m_X3_put (l : Launch) (E : wg_E) (x0 : Nat) (x1 : Int32) (x2 : Int32) (hx0 : wg_t Sc x0 = 5) (σ : wg_M) (q : Int32 × wg_M) (h : f_X3_put x0 x1 x2 σ = some q) : wg_MG l E Sc yX3_put cX3_put 3 none rm_X3_put [.ref x0, .int x1, .int x2] σ none q.2 :=
  wg_met [.ref x0, .int x1, .int x2] (plainFor_of_name (by decide)) (Nat.le_of_ble_eq_true rfl) (g_X3_put_e l E x0 x1 x2 σ q hx0 h)
abbrev rm_X4_copyFrom : Room := { frames := 2, cells := 0, slots := 0, locals := 61 }
def tb_X4_copyFrom : List (Nat × Instr × Nat) := [(0, .aload_n 1, 1), (1, .getfield 13, 3), (4, .aload_n 0, 1), (5, .getfield 13, 3), (8, .invokestatic 28, 3), (11, .aload_n 1, 1), (12, .getfield 19, 3), (15, .aload_n 0, 1), (16, .getfield 19, 3), (19, .invokestatic 28, 3), (22, .aload_n 1, 1), (23, .getfield 22, 3), (26, .aload_n 0, 1), (27, .getfield 22, 3), (30, .invokestatic 28, 3), (33, .aload_n 1, 1), (34, .getfield 25, 3), (37, .aload_n 0, 1), (38, .getfield 25, 3), (41, .invokestatic 28, 3), (44, .aload_n 0, 1), (45, .aload_n 1, 1), (46, .getfield 34, 3), (49, .putfield 34, 3), (52, .return_, 1)]
theorem dt_X4_copyFrom : wg_dc cX4_copyFrom tb_X4_copyFrom := by unfold wg_dc; decide +kernel
def f_X4_copyFrom  (x0 : Nat) (x1 : Nat) (σ : wg_M) : Option (Int32 × wg_M) := wg_bd (f_X11_copyRow (wg_r Sc x1 0) (wg_r Sc x0 0) σ) (fun _ s1 => wg_bd (f_X11_copyRow (wg_r Sc x1 1) (wg_r Sc x0 1) s1) (fun _ s2 => wg_bd (f_X11_copyRow (wg_r Sc x1 2) (wg_r Sc x0 2) s2) (fun _ s3 => wg_bd (f_X11_copyRow (wg_r Sc x1 3) (wg_r Sc x0 3) s3) (fun _ s4 => wg_st s4 x0 4 (s4 x1 4) (fun s5 => some (0, s5))))))
set_option maxRecDepth 20000 in
theorem g_X4_copyFrom_e (l : Launch) (E : wg_E)  (x0 : Nat) (x1 : Nat) (σ : wg_M) (z : Int32 × wg_M) (hx0 : wg_t Sc x0 = 6) (hx1 : wg_t Sc x1 = 6) (h : f_X4_copyFrom  x0 x1 σ = some z) : wg_G l E Sc "WornWigs$Lines" cX4_copyFrom 2 none rm_X4_copyFrom none z.2 0 [some (.ref x0), some (.ref x1)] [] σ := by
  refine wr_aload_n (wg_da dt_X4_copyFrom 0 rfl) rfl ?_
  refine wr_getR wf_X4_13 (wg_da dt_X4_copyFrom 1 rfl) hx1 ?_
  refine wr_aload_n (wg_da dt_X4_copyFrom 2 rfl) rfl ?_
  refine wr_getR wf_X4_13 (wg_da dt_X4_copyFrom 3 rfl) hx0 ?_
  refine wr_callNv [.ref (wg_r Sc x1 0), .ref (wg_r Sc x0 0)] [] (wg_da dt_X4_copyFrom 4 rfl) ⟨List.mem_of_getElem? (i := 17) rfl, wq_3_143⟩ wy_X11_copyRow (fun q hq => m_X11_copyRow l E (wg_r Sc x1 0) (wg_r Sc x0 0) (wg_ty Sc_ok 4 0 0 hx1 rfl (by decide)).2 (wg_ty Sc_ok 4 0 0 hx0 rfl (by decide)).2 _ q hq) rfl rfl (Nat.le_of_ble_eq_true rfl) ⟨rfl, rfl, by decide, by decide⟩ h (fun _ s1 h => ?_)
  refine wr_aload_n (wg_da dt_X4_copyFrom 5 rfl) rfl ?_
  refine wr_getR wf_X4_19 (wg_da dt_X4_copyFrom 6 rfl) hx1 ?_
  refine wr_aload_n (wg_da dt_X4_copyFrom 7 rfl) rfl ?_
  refine wr_getR wf_X4_19 (wg_da dt_X4_copyFrom 8 rfl) hx0 ?_
  refine wr_callNv [.ref (wg_r Sc x1 1), .ref (wg_r Sc x0 1)] [] (wg_da dt_X4_copyFrom 9 rfl) ⟨List.mem_of_getElem? (i := 17) rfl, wq_3_143⟩ wy_X11_copyRow (fun q hq => m_X11_copyRow l E (wg_r Sc x1 1) (wg_r Sc x0 1) (wg_ty Sc_ok 4 1 0 hx1 rfl (by decide)).2 (wg_ty Sc_ok 4 1 0 hx0 rfl (by decide)).2 _ q hq) rfl rfl (Nat.le_of_ble_eq_true rfl) ⟨rfl, rfl, by decide, by decide⟩ h (fun _ s2 h => ?_)
  refine wr_aload_n (wg_da dt_X4_copyFrom 10 rfl) rfl ?_
  refine wr_getR wf_X4_22 (wg_da dt_X4_copyFrom 11 rfl) hx1 ?_
  refine wr_aload_n (wg_da dt_X4_copyFrom 12 rfl) rfl ?_
  refine wr_getR wf_X4_22 (wg_da dt_X4_copyFrom 13 rfl) hx0 ?_
  refine wr_callNv [.ref (wg_r Sc x1 2), .ref (wg_r Sc x0 2)] [] (wg_da dt_X4_copyFrom 14 rfl) ⟨List.mem_of_getElem? (i := 17) rfl, wq_3_143⟩ wy_X11_copyRow (fun q hq => m_X11_copyRow l E (wg_r Sc x1 2) (wg_r Sc x0 2) (wg_ty Sc_ok 4 2 0 hx1 rfl (by decide)).2 (wg_ty Sc_ok 4 2 0 hx0 rfl (by decide)).2 _ q hq) rfl rfl (Nat.le_of_ble_eq_true rfl) ⟨rfl, rfl, by decide, by decide⟩ h (fun _ s3 h => ?_)
  refine wr_aload_n (wg_da dt_X4_copyFrom 15 rfl) rfl ?_
  refine wr_getR wf_X4_25 (wg_da dt_X4_copyFrom 16 rfl) hx1 ?_
  refine wr_aload_n (wg_da dt_X4_copyFrom 17 rfl) rfl ?_
  refine wr_getR wf_X4_25 (wg_da dt_X4_copyFrom 18 rfl) hx0 ?_
  refine wr_callNv [.ref (wg_r Sc x1 3), .ref (wg_r Sc x0 3)] [] (wg_da dt_X4_copyFrom 19 rfl) ⟨List.mem_of_getElem? (i := 17) rfl, wq_3_143⟩ wy_X11_copyRow (fun q hq => m_X11_copyRow l E (wg_r Sc x1 3) (wg_r Sc x0 3) (wg_ty Sc_ok 4 3 0 hx1 rfl (by decide)).2 (wg_ty Sc_ok 4 3 0 hx0 rfl (by decide)).2 _ q hq) rfl rfl (Nat.le_of_ble_eq_true rfl) ⟨rfl, rfl, by decide, by decide⟩ h (fun _ s4 h => ?_)
  refine wr_aload_n (wg_da dt_X4_copyFrom 20 rfl) rfl ?_
  refine wr_aload_n (wg_da dt_X4_copyFrom 21 rfl) rfl ?_
  refine wr_getI wf_X4_34 (wg_da dt_X4_copyFrom 22 rfl) hx1 ?_
  refine wr_putI wfp_X4_34 (wg_da dt_X4_copyFrom 23 rfl) hx0 h (fun s5 h => ?_)
  exact wr_vret (wg_da dt_X4_copyFrom 24 rfl) h
theorem m_X4_copyFrom (l : Launch) (E : wg_E) (x0 : Nat) (x1 : Nat) (hx0 : wg_t Sc x0 = 6) (hx1 : wg_t Sc x1 = 6) (σ : wg_M) (q : Int32 × wg_M) (h : f_X4_copyFrom x0 x1 σ = some q) : wg_MG l E Sc yX4_copyFrom cX4_copyFrom 2 none rm_X4_copyFrom [.ref x0, .ref x1] σ none q.2 :=
  wg_met [.ref x0, .ref x1] (plainFor_of_name (by decide)) (Nat.le_of_ble_eq_true rfl) (g_X4_copyFrom_e l E x0 x1 σ q hx0 hx1 h)
abbrev rm_X5_remember : Room := { frames := 4, cells := 0, slots := 0, locals := 103 }
def tb_X5_remember : List (Nat × Instr × Nat) := [(0, .aload_n 0, 1), (1, .getfield 11, 3), (4, .aload_n 0, 1), (5, .getfield 18, 3), (8, .aaload, 1), (9, .aload_n 1, 1), (10, .invokevirtual 22, 3), (13, .aload_n 0, 1), (14, .aload_n 0, 1), (15, .getfield 18, 3), (18, .iconst 1, 1), (19, .iadd, 1), (20, .bipush 6, 2), (22, .irem, 1), (23, .putfield 18, 3), (26, .aload_n 0, 1), (27, .bipush 6, 2), (29, .aload_n 0, 1), (30, .getfield 26, 3), (33, .iconst 1, 1), (34, .iadd, 1), (35, .invokestatic 29, 3), (38, .putfield 26, 3), (41, .return_, 1)]
theorem dt_X5_remember : wg_dc cX5_remember tb_X5_remember := by unfold wg_dc; decide +kernel
def f_X5_remember  (x0 : Nat) (x1 : Nat) (σ : wg_M) : Option (Int32 × wg_M) := wg_gr Sc (wg_r Sc x0 0) (σ x0 1) (fun b1 => wg_bd (f_X0_copyFrom b1 x1 σ) (fun _ s2 => wg_rm ((s2 x0 1) + (1 : Int32)) (6 : Int32) (fun v3 => wg_st s2 x0 1 v3 (fun s4 => wg_bd (f_J9_min_7cf53 (6 : Int32) ((s4 x0 2) + (1 : Int32)) s4) (fun v5 s6 => wg_st s6 x0 2 v5 (fun s7 => some (0, s7)))))))
set_option maxRecDepth 20000 in
theorem g_X5_remember_e (l : Launch) (E : wg_E)  (x0 : Nat) (x1 : Nat) (σ : wg_M) (z : Int32 × wg_M) (hx0 : wg_t Sc x0 = 7) (hx1 : wg_t Sc x1 = 2) (h : f_X5_remember  x0 x1 σ = some z) : wg_G l E Sc "WornWigs$Past" cX5_remember 2 none rm_X5_remember none z.2 0 [some (.ref x0), some (.ref x1)] [] σ := by
  refine wr_aload_n (wg_da dt_X5_remember 0 rfl) rfl ?_
  refine wr_getR wf_X5_11 (wg_da dt_X5_remember 1 rfl) hx0 ?_
  refine wr_aload_n (wg_da dt_X5_remember 2 rfl) rfl ?_
  refine wr_getI wf_X5_18 (wg_da dt_X5_remember 3 rfl) hx0 ?_
  refine wr_aald Sc_ok (wg_da dt_X5_remember 4 rfl) (wg_ty Sc_ok 5 0 1 hx0 rfl (by decide)).2 h (fun b1 hb1 h => ?_)
  refine wr_aload_n (wg_da dt_X5_remember 5 rfl) rfl ?_
  refine wr_callVv [.ref x1] [] (wg_da dt_X5_remember 6 rfl) ⟨wq_3_134, wq_3_135, wq_3_136⟩ hb1 ⟨rfl, by decide⟩ wy_X0_copyFrom (fun q hq => m_X0_copyFrom l E b1 x1 hb1 hx1 _ q hq) rfl rfl (Nat.le_of_ble_eq_true rfl) ⟨rfl, rfl, by decide, by decide⟩ h (fun _ s2 h => ?_)
  refine wr_aload_n (wg_da dt_X5_remember 7 rfl) rfl ?_
  refine wr_aload_n (wg_da dt_X5_remember 8 rfl) rfl ?_
  refine wr_getI wf_X5_18 (wg_da dt_X5_remember 9 rfl) hx0 ?_
  refine wr_iconst (1 : Int32) (wg_da dt_X5_remember 10 rfl) (by decide) ?_
  refine wr_iadd (wg_da dt_X5_remember 11 rfl) ?_
  refine wr_bipush (6 : Int32) (wg_da dt_X5_remember 12 rfl) (by decide) ?_
  refine wr_irem (wg_da dt_X5_remember 13 rfl) h (fun v3 h => ?_)
  refine wr_putI wfp_X5_18 (wg_da dt_X5_remember 14 rfl) hx0 h (fun s4 h => ?_)
  refine wr_aload_n (wg_da dt_X5_remember 15 rfl) rfl ?_
  refine wr_bipush (6 : Int32) (wg_da dt_X5_remember 16 rfl) (by decide) ?_
  refine wr_aload_n (wg_da dt_X5_remember 17 rfl) rfl ?_
  refine wr_getI wf_X5_26 (wg_da dt_X5_remember 18 rfl) hx0 ?_
  refine wr_iconst (1 : Int32) (wg_da dt_X5_remember 19 rfl) (by decide) ?_
  refine wr_iadd (wg_da dt_X5_remember 20 rfl) ?_
  refine wr_callSi [.int (6 : Int32), .int ((s4 x0 2) + (1 : Int32))] [.ref x0] (wg_da dt_X5_remember 21 rfl) ⟨wq_3_155, wq_3_98⟩ wy_J9_min_7cf53 (fun q hq => m_J9_min_7cf53 l E (6 : Int32) ((s4 x0 2) + (1 : Int32))  _ q hq) rfl rfl (Nat.le_of_ble_eq_true rfl) ⟨rfl, rfl, by decide, by decide⟩ h (fun v5 s6 h => ?_)
  refine wr_putI wfp_X5_26 (wg_da dt_X5_remember 22 rfl) hx0 h (fun s7 h => ?_)
  exact wr_vret (wg_da dt_X5_remember 23 rfl) h
theorem m_X5_remember (l : Launch) (E : wg_E) (x0 : Nat) (x1 : Nat) (hx0 : wg_t Sc x0 = 7) (hx1 : wg_t Sc x1 = 2) (σ : wg_M) (q : Int32 × wg_M) (h : f_X5_remember x0 x1 σ = some q) : wg_MG l E Sc yX5_remember cX5_remember 2 none rm_X5_remember [.ref x0, .ref x1] σ none q.2 :=
  wg_met [.ref x0, .ref x1] (plainFor_of_name (by decide)) (Nat.le_of_ble_eq_true rfl) (g_X5_remember_e l E x0 x1 σ q hx0 hx1 h)
abbrev rm_X5_goBack : Room := { frames := 4, cells := 0, slots := 0, locals := 103 }
def tb_X5_goBack : List (Nat × Instr × Nat) := [(0, .aload_n 0, 1), (1, .getfield 26, 3), (4, .ifCond .ne 5, 3), (7, .iconst 0, 1), (8, .ireturn, 1), (9, .aload_n 0, 1), (10, .aload_n 0, 1), (11, .getfield 18, 3), (14, .bipush 6, 2), (16, .iadd, 1), (17, .iconst 1, 1), (18, .isub, 1), (19, .bipush 6, 2), (21, .irem, 1), (22, .putfield 18, 3), (25, .aload_n 0, 1), (26, .dup, 1), (27, .getfield 26, 3), (30, .iconst 1, 1), (31, .isub, 1), (32, .putfield 26, 3), (35, .aload_n 1, 1), (36, .aload_n 0, 1), (37, .getfield 11, 3), (40, .aload_n 0, 1), (41, .getfield 18, 3), (44, .aaload, 1), (45, .invokevirtual 22, 3), (48, .iconst 1, 1), (49, .ireturn, 1)]
theorem dt_X5_goBack : wg_dc cX5_goBack tb_X5_goBack := by unfold wg_dc; decide +kernel
def f_X5_goBack  (x0 : Nat) (x1 : Nat) (σ : wg_M) : Option (Int32 × wg_M) := if (σ x0 2) = 0 then (some ((0 : Int32), σ)) else (wg_rm (((σ x0 1) + (6 : Int32)) - (1 : Int32)) (6 : Int32) (fun v1 => wg_st σ x0 1 v1 (fun s2 => wg_st s2 x0 2 ((s2 x0 2) - (1 : Int32)) (fun s3 => wg_gr Sc (wg_r Sc x0 0) (s3 x0 1) (fun b4 => wg_bd (f_X0_copyFrom x1 b4 s3) (fun _ s5 => some ((1 : Int32), s5)))))))
set_option maxRecDepth 20000 in
theorem g_X5_goBack_e (l : Launch) (E : wg_E)  (x0 : Nat) (x1 : Nat) (σ : wg_M) (z : Int32 × wg_M) (hx0 : wg_t Sc x0 = 7) (hx1 : wg_t Sc x1 = 2) (h : f_X5_goBack  x0 x1 σ = some z) : wg_G l E Sc "WornWigs$Past" cX5_goBack 2 (some .boolean) rm_X5_goBack (some z.1) z.2 0 [some (.ref x0), some (.ref x1)] [] σ := by
  refine wr_aload_n (wg_da dt_X5_goBack 0 rfl) rfl ?_
  refine wr_getI wf_X5_26 (wg_da dt_X5_goBack 1 rfl) hx0 ?_
  refine wr_if_ne 9 (wg_da dt_X5_goBack 2 rfl) (by decide) h (fun h => ?_) (fun h => ?_)
  · refine wr_iconst (0 : Int32) (wg_da dt_X5_goBack 3 rfl) (by decide) ?_
    exact wr_zret0 (wg_da dt_X5_goBack 4 rfl) h
  · refine wr_aload_n (wg_da dt_X5_goBack 5 rfl) rfl ?_
    refine wr_aload_n (wg_da dt_X5_goBack 6 rfl) rfl ?_
    refine wr_getI wf_X5_18 (wg_da dt_X5_goBack 7 rfl) hx0 ?_
    refine wr_bipush (6 : Int32) (wg_da dt_X5_goBack 8 rfl) (by decide) ?_
    refine wr_iadd (wg_da dt_X5_goBack 9 rfl) ?_
    refine wr_iconst (1 : Int32) (wg_da dt_X5_goBack 10 rfl) (by decide) ?_
    refine wr_isub (wg_da dt_X5_goBack 11 rfl) ?_
    refine wr_bipush (6 : Int32) (wg_da dt_X5_goBack 12 rfl) (by decide) ?_
    refine wr_irem (wg_da dt_X5_goBack 13 rfl) h (fun v1 h => ?_)
    refine wr_putI wfp_X5_18 (wg_da dt_X5_goBack 14 rfl) hx0 h (fun s2 h => ?_)
    refine wr_aload_n (wg_da dt_X5_goBack 15 rfl) rfl ?_
    refine wr_dup (wg_da dt_X5_goBack 16 rfl) ?_
    refine wr_getI wf_X5_26 (wg_da dt_X5_goBack 17 rfl) hx0 ?_
    refine wr_iconst (1 : Int32) (wg_da dt_X5_goBack 18 rfl) (by decide) ?_
    refine wr_isub (wg_da dt_X5_goBack 19 rfl) ?_
    refine wr_putI wfp_X5_26 (wg_da dt_X5_goBack 20 rfl) hx0 h (fun s3 h => ?_)
    refine wr_aload_n (wg_da dt_X5_goBack 21 rfl) rfl ?_
    refine wr_aload_n (wg_da dt_X5_goBack 22 rfl) rfl ?_
    refine wr_getR wf_X5_11 (wg_da dt_X5_goBack 23 rfl) hx0 ?_
    refine wr_aload_n (wg_da dt_X5_goBack 24 rfl) rfl ?_
    refine wr_getI wf_X5_18 (wg_da dt_X5_goBack 25 rfl) hx0 ?_
    refine wr_aald Sc_ok (wg_da dt_X5_goBack 26 rfl) (wg_ty Sc_ok 5 0 1 hx0 rfl (by decide)).2 h (fun b4 hb4 h => ?_)
    refine wr_callVv [.ref b4] [] (wg_da dt_X5_goBack 27 rfl) ⟨wq_3_134, wq_3_135, wq_3_136⟩ hx1 ⟨rfl, by decide⟩ wy_X0_copyFrom (fun q hq => m_X0_copyFrom l E x1 b4 hx1 hb4 _ q hq) rfl rfl (Nat.le_of_ble_eq_true rfl) ⟨rfl, rfl, by decide, by decide⟩ h (fun _ s5 h => ?_)
    refine wr_iconst (1 : Int32) (wg_da dt_X5_goBack 28 rfl) (by decide) ?_
    exact wr_zret1 (wg_da dt_X5_goBack 29 rfl) h
theorem m_X5_goBack (l : Launch) (E : wg_E) (x0 : Nat) (x1 : Nat) (hx0 : wg_t Sc x0 = 7) (hx1 : wg_t Sc x1 = 2) (σ : wg_M) (q : Int32 × wg_M) (h : f_X5_goBack x0 x1 σ = some q) : wg_MG l E Sc yX5_goBack cX5_goBack 2 (some .boolean) rm_X5_goBack [.ref x0, .ref x1] σ (some q.1) q.2 :=
  wg_met [.ref x0, .ref x1] (plainFor_of_name (by decide)) (Nat.le_of_ble_eq_true rfl) (g_X5_goBack_e l E x0 x1 σ q hx0 hx1 h)
abbrev rm_X5_forget : Room := { frames := 0, cells := 0, slots := 0, locals := 0 }
def tb_X5_forget : List (Nat × Instr × Nat) := [(0, .aload_n 0, 1), (1, .iconst 0, 1), (2, .putfield 26, 3), (5, .return_, 1)]
theorem dt_X5_forget : wg_dc cX5_forget tb_X5_forget := by unfold wg_dc; decide +kernel
def f_X5_forget  (x0 : Nat) (σ : wg_M) : Option (Int32 × wg_M) := wg_st σ x0 2 (0 : Int32) (fun s1 => some (0, s1))
set_option maxRecDepth 20000 in
theorem g_X5_forget_e (l : Launch) (E : wg_E)  (x0 : Nat) (σ : wg_M) (z : Int32 × wg_M) (hx0 : wg_t Sc x0 = 7) (h : f_X5_forget  x0 σ = some z) : wg_G l E Sc "WornWigs$Past" cX5_forget 1 none rm_X5_forget none z.2 0 [some (.ref x0)] [] σ := by
  refine wr_aload_n (wg_da dt_X5_forget 0 rfl) rfl ?_
  refine wr_iconst (0 : Int32) (wg_da dt_X5_forget 1 rfl) (by decide) ?_
  refine wr_putI wfp_X5_26 (wg_da dt_X5_forget 2 rfl) hx0 h (fun s1 h => ?_)
  exact wr_vret (wg_da dt_X5_forget 3 rfl) h
theorem m_X5_forget (l : Launch) (E : wg_E) (x0 : Nat) (hx0 : wg_t Sc x0 = 7) (σ : wg_M) (q : Int32 × wg_M) (h : f_X5_forget x0 σ = some q) : wg_MG l E Sc yX5_forget cX5_forget 1 none rm_X5_forget [.ref x0] σ none q.2 :=
  wg_met [.ref x0] (plainFor_of_name (by decide)) (Nat.le_of_ble_eq_true rfl) (g_X5_forget_e l E x0 σ q hx0 h)
abbrev rm_X6_hasRoomFor : Room := { frames := 0, cells := 0, slots := 0, locals := 0 }
def tb_X6_hasRoomFor : List (Nat × Instr × Nat) := [(0, .aload_n 0, 1), (1, .getfield 51, 3), (4, .sipush 400, 3), (7, .iload_n 1, 1), (8, .isub, 1), (9, .if_icmp .gt 7, 3), (12, .iconst 1, 1), (13, .goto 4, 3), (16, .iconst 0, 1), (17, .ireturn, 1)]
theorem dt_X6_hasRoomFor : wg_dc cX6_hasRoomFor tb_X6_hasRoomFor := by unfold wg_dc; decide +kernel
def f_X6_hasRoomFor  (x0 : Nat) (x1 : Int32) (σ : wg_M) : Option (Int32 × wg_M) := if ((400 : Int32) - x1) < (σ x0 2) then (some ((0 : Int32), σ)) else (some ((1 : Int32), σ))
set_option maxRecDepth 20000 in
theorem g_X6_hasRoomFor_e (l : Launch) (E : wg_E)  (x0 : Nat) (x1 : Int32) (σ : wg_M) (z : Int32 × wg_M) (hx0 : wg_t Sc x0 = 8) (h : f_X6_hasRoomFor  x0 x1 σ = some z) : wg_G l E Sc "WornWigs$Reader" cX6_hasRoomFor 2 (some .boolean) rm_X6_hasRoomFor (some z.1) z.2 0 [some (.ref x0), some (.int x1)] [] σ := by
  refine wr_aload_n (wg_da dt_X6_hasRoomFor 0 rfl) rfl ?_
  refine wr_getI wf_X6_51 (wg_da dt_X6_hasRoomFor 1 rfl) hx0 ?_
  refine wr_sipush (400 : Int32) (wg_da dt_X6_hasRoomFor 2 rfl) (by decide) ?_
  refine wr_iload_n (wg_da dt_X6_hasRoomFor 3 rfl) rfl ?_
  refine wr_isub (wg_da dt_X6_hasRoomFor 4 rfl) ?_
  refine wr_icmp_gt 16 (wg_da dt_X6_hasRoomFor 5 rfl) (by decide) h (fun h => ?_) (fun h => ?_)
  · refine wr_iconst (0 : Int32) (wg_da dt_X6_hasRoomFor 8 rfl) (by decide) ?_
    exact wr_zret0 (wg_da dt_X6_hasRoomFor 9 rfl) h
  · refine wr_iconst (1 : Int32) (wg_da dt_X6_hasRoomFor 6 rfl) (by decide) ?_
    refine wr_goto 17 (wg_da dt_X6_hasRoomFor 7 rfl) (by decide) ?_
    exact wr_zret1 (wg_da dt_X6_hasRoomFor 9 rfl) h
theorem m_X6_hasRoomFor (l : Launch) (E : wg_E) (x0 : Nat) (x1 : Int32) (hx0 : wg_t Sc x0 = 8) (σ : wg_M) (q : Int32 × wg_M) (h : f_X6_hasRoomFor x0 x1 σ = some q) : wg_MG l E Sc yX6_hasRoomFor cX6_hasRoomFor 2 (some .boolean) rm_X6_hasRoomFor [.ref x0, .int x1] σ (some q.1) q.2 :=
  wg_met [.ref x0, .int x1] (plainFor_of_name (by decide)) (Nat.le_of_ble_eq_true rfl) (g_X6_hasRoomFor_e l E x0 x1 σ q hx0 h)
abbrev rm_X6_addNumber : Room := { frames := 0, cells := 0, slots := 0, locals := 0 }
def tb_X6_addNumber : List (Nat × Instr × Nat) := [(0, .bipush 24, 2), (2, .istore_n 2, 1), (3, .iload_n 2, 1), (4, .ifCond .lt 45, 3), (7, .aload_n 0, 1), (8, .getfield 51, 3), (11, .sipush 400, 3), (14, .if_icmp .ge 29, 3), (17, .aload_n 0, 1), (18, .getfield 9, 3), (21, .aload_n 0, 1), (22, .getfield 51, 3), (25, .iload_n 1, 1), (26, .iload_n 2, 1), (27, .iushr, 1), (28, .sipush 255, 3), (31, .iand, 1), (32, .iastore, 1), (33, .aload_n 0, 1), (34, .dup, 1), (35, .getfield 51, 3), (38, .iconst 1, 1), (39, .iadd, 1), (40, .putfield 51, 3), (43, .iinc 2 (-8), 3), (46, .goto (-43), 3), (49, .return_, 1)]
theorem dt_X6_addNumber : wg_dc cX6_addNumber tb_X6_addNumber := by unfold wg_dc; decide +kernel
def f_X6_addNumber_43 (k3 : Nat → Int32 → Int32 → wg_M → Option (Int32 × wg_M)) (x0 : Nat) (x1 : Int32) (x2 : Int32) (σ : wg_M) : Option (Int32 × wg_M) := wg_let (x2 + (-8 : Int32)) (fun v1 => k3 x0 x1 v1 σ)
def f_X6_addNumber_3  : Nat → Nat → Int32 → Int32 → wg_M → Option (Int32 × wg_M)
  | 0, _, _, _, _ => none
  | n + 1, x0, x1, x2, σ => if x2 < 0 then (some (0, σ)) else (if (400 : Int32) ≤ (σ x0 2) then (f_X6_addNumber_43 (f_X6_addNumber_3  n) x0 x1 x2 σ) else (wg_sa (wg_n Sc (wg_r Sc x0 1)) σ (wg_r Sc x0 1) (σ x0 2) ((wg_ush x1 x2) &&& (255 : Int32)) (fun s1 => wg_st s1 x0 2 ((s1 x0 2) + (1 : Int32)) (fun s2 => f_X6_addNumber_43 (f_X6_addNumber_3  n) x0 x1 x2 s2))))
def f_X6_addNumber  (x0 : Nat) (x1 : Int32) (σ : wg_M) : Option (Int32 × wg_M) := f_X6_addNumber_3  wg_N x0 x1 (24 : Int32) σ
set_option maxRecDepth 20000 in
theorem g_X6_addNumber_43 (l : Launch) (E : wg_E) (k3 : Nat → Int32 → Int32 → wg_M → Option (Int32 × wg_M)) (x0 : Nat) (x1 : Int32) (x2 : Int32) (σ : wg_M) (z : Int32 × wg_M) (hx0 : wg_t Sc x0 = 8) (hk3 : ∀ (x0 : Nat) (x1 : Int32) (x2 : Int32) (σ : wg_M), wg_t Sc x0 = 8 → k3 x0 x1 x2 σ = some z → wg_G l E Sc "WornWigs$Reader" cX6_addNumber 3 none rm_X6_addNumber none z.2 3 [some (.ref x0), some (.int x1), some (.int x2)] [] σ) (h : f_X6_addNumber_43 k3 x0 x1 x2 σ = some z) : wg_G l E Sc "WornWigs$Reader" cX6_addNumber 3 none rm_X6_addNumber none z.2 43 [some (.ref x0), some (.int x1), some (.int x2)] [] σ := by
  refine wr_iinc (c0 := (-8 : Int32)) (wg_da dt_X6_addNumber 24 rfl) rfl (by decide) (by decide) h (fun v1 h => ?_)
  refine wr_goto 3 (wg_da dt_X6_addNumber 25 rfl) (by decide) ?_
  exact wr_wk [true, true, true] (hk3 x0 x1 v1 σ hx0 h)
set_option maxRecDepth 20000 in
theorem g_X6_addNumber_3 (l : Launch) (E : wg_E)  (z : Int32 × wg_M) : ∀ (n : Nat) (x0 : Nat) (x1 : Int32) (x2 : Int32) (σ : wg_M) (hx0 : wg_t Sc x0 = 8) (h : f_X6_addNumber_3  n x0 x1 x2 σ = some z), wg_G l E Sc "WornWigs$Reader" cX6_addNumber 3 none rm_X6_addNumber none z.2 3 [some (.ref x0), some (.int x1), some (.int x2)] [] σ := by
  intro n
  induction n with
  | zero => intro x0 x1 x2 σ hx0 h; cases h
  | succ n ih =>
    intro x0 x1 x2 σ hx0 h
    refine wr_iload_n (wg_da dt_X6_addNumber 2 rfl) rfl ?_
    refine wr_if_lt 49 (wg_da dt_X6_addNumber 3 rfl) (by decide) h (fun h => ?_) (fun h => ?_)
    · exact wr_vret (wg_da dt_X6_addNumber 26 rfl) h
    · refine wr_aload_n (wg_da dt_X6_addNumber 4 rfl) rfl ?_
      refine wr_getI wf_X6_51 (wg_da dt_X6_addNumber 5 rfl) hx0 ?_
      refine wr_sipush (400 : Int32) (wg_da dt_X6_addNumber 6 rfl) (by decide) ?_
      refine wr_icmp_ge 43 (wg_da dt_X6_addNumber 7 rfl) (by decide) h (fun h => ?_) (fun h => ?_)
      · exact wr_wk [true, true, true] (g_X6_addNumber_43 l E (f_X6_addNumber_3  n) x0 x1 x2 σ _ hx0 (fun x0 x1 x2 σ hx0 h => ih x0 x1 x2 σ hx0 h) h)
      · refine wr_aload_n (wg_da dt_X6_addNumber 8 rfl) rfl ?_
        refine wr_getR wf_X6_9 (wg_da dt_X6_addNumber 9 rfl) hx0 ?_
        refine wr_aload_n (wg_da dt_X6_addNumber 10 rfl) rfl ?_
        refine wr_getI wf_X6_51 (wg_da dt_X6_addNumber 11 rfl) hx0 ?_
        refine wr_iload_n (wg_da dt_X6_addNumber 12 rfl) rfl ?_
        refine wr_iload_n (wg_da dt_X6_addNumber 13 rfl) rfl ?_
        refine wr_iushr (wg_da dt_X6_addNumber 14 rfl) ?_
        refine wr_sipush (255 : Int32) (wg_da dt_X6_addNumber 15 rfl) (by decide) ?_
        refine wr_iand (wg_da dt_X6_addNumber 16 rfl) ?_
        refine wr_iast (wg_da dt_X6_addNumber 17 rfl) (wg_ty Sc_ok 6 1 0 hx0 rfl (by decide)).2 h (fun s1 h => ?_)
        refine wr_aload_n (wg_da dt_X6_addNumber 18 rfl) rfl ?_
        refine wr_dup (wg_da dt_X6_addNumber 19 rfl) ?_
        refine wr_getI wf_X6_51 (wg_da dt_X6_addNumber 20 rfl) hx0 ?_
        refine wr_iconst (1 : Int32) (wg_da dt_X6_addNumber 21 rfl) (by decide) ?_
        refine wr_iadd (wg_da dt_X6_addNumber 22 rfl) ?_
        refine wr_putI wfp_X6_51 (wg_da dt_X6_addNumber 23 rfl) hx0 h (fun s2 h => ?_)
        exact wr_wk [true, true, true] (g_X6_addNumber_43 l E (f_X6_addNumber_3  n) x0 x1 x2 s2 _ hx0 (fun x0 x1 x2 σ hx0 h => ih x0 x1 x2 σ hx0 h) h)
set_option maxRecDepth 20000 in
theorem g_X6_addNumber_e (l : Launch) (E : wg_E)  (x0 : Nat) (x1 : Int32) (σ : wg_M) (z : Int32 × wg_M) (hx0 : wg_t Sc x0 = 8) (h : f_X6_addNumber  x0 x1 σ = some z) : wg_G l E Sc "WornWigs$Reader" cX6_addNumber 3 none rm_X6_addNumber none z.2 0 [some (.ref x0), some (.int x1), none] [] σ := by
  refine wr_bipush (24 : Int32) (wg_da dt_X6_addNumber 0 rfl) (by decide) ?_
  refine wr_istore_n (wg_da dt_X6_addNumber 1 rfl) (by decide) ?_
  exact wr_wk [true, true, true] (g_X6_addNumber_3 l E  _  wg_N x0 x1 (24 : Int32) σ hx0 h)
theorem m_X6_addNumber (l : Launch) (E : wg_E) (x0 : Nat) (x1 : Int32) (hx0 : wg_t Sc x0 = 8) (σ : wg_M) (q : Int32 × wg_M) (h : f_X6_addNumber x0 x1 σ = some q) : wg_MG l E Sc yX6_addNumber cX6_addNumber 3 none rm_X6_addNumber [.ref x0, .int x1] σ none q.2 :=
  wg_met [.ref x0, .int x1] (plainFor_of_name (by decide)) (Nat.le_of_ble_eq_true rfl) (g_X6_addNumber_e l E x0 x1 σ q hx0 h)

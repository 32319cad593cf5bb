/-- the text of the KEYWORDS -/
def wg_wb : List Int32 := [97, 103, 101, 32, 109, 105, 110, 100, 32, 99, 111, 108, 111, 117, 114, 32, 104, 97, 105, 114, 32, 105, 116, 99, 104, 32, 108, 101, 110, 116, 32, 99, 97, 117, 115, 101, 32, 119, 101, 105, 103, 104, 116, 32, 116, 114, 105, 101, 100, 32, 121, 101, 97, 114, 32, 99, 111, 117, 110, 116, 115, 32, 109, 111, 116, 104, 32, 100, 105, 101, 115, 32, 119, 104, 101, 110, 32, 111, 114, 32, 97, 110, 100, 32, 110, 111, 116, 32, 105, 110, 32, 99, 97, 115, 101, 32, 98, 101, 102, 111, 114, 101, 32, 119, 105, 103, 32, 111, 110, 32, 111, 102, 102, 32, 99, 111, 109, 98, 32, 98, 114, 117, 115, 104, 32, 111, 102, 32]
def wg_tx : String := "age mind colour hair itch lent cause weight tried year counts moth dies when or and not in case before wig on off comb brush of "
/-- what is carried of the text: .float 0 stands for it, .retAddr 0 for its bytes, .null for the formatter -/
def wg_str (E : wg_E) (S : wg_S) (U : State) : Prop := vk_R "WornWigs$Reader" 88 wg_tx E.2.2.2.2.1.1 U ∧ vk_S 1 [128] [wg_wb] (fun _ => E.2.2.2.2.1.1) (fun _ => E.2.2.2.2.1.2.1) (wg_A E S) U U.heap ∧ va_Z "java/lang/String" "COMPACT_STRINGS" "Z" (.int 1) (wg_A E S) U U.heap ∧ va_Z "jdk/internal/util/Preconditions" "SIOOBE_FORMATTER" "Ljava/util/function/BiFunction;" (va_rf E.2.2.2.2.1.2.2) (wg_A E S) U U.heap
def wg_ch {α : Type} (v : Int32) (κ : Option α) : Option α := if narrow .char (.int v) = .int v then κ else none
def wg_sx (E : wg_E) (S : wg_S) : Prop := ∀ U : State, E.2.2.2.2.2 U → wg_str E S U
section WT
variable {l : Launch} {E : wg_E} {S : wg_S} {own : String} {cc : ByteArray} {nL : Nat} {rt : Option FieldType} {R : Room} {r : Option Int32} {σ' : wg_M} {pc : Nat} {L : List (Option Value)} {st : List Value} {σ : wg_M} {z : Int32 × wg_M}
theorem wr_ldcs (hE : wg_sx E S) (hown : own = "WornWigs$Reader") (hd : decode cc pc = .ok (.ldc 88, 2)) (k : wg_G l E S own cc nL rt R r σ' (pc + 2) L (.float 0 :: st) σ) : wg_G l E S own cc nL rt R r σ' pc L st σ := by
  intro p e s m args below meth c H locs ls hx hb hml hr hlk ho hts hK hO hP hS hL
  subst hown
  exact va_ldcS hx hb ho (hE s hK.2.2).1 hd (k p e s m args below meth c H locs ls hx hb hml hr hlk ho hts hK hO hP hS hL)
theorem wr_callT {idx n nL2 : Nat} {y : MethodName} {cc2 : ByteArray} {rt2 : Option FieldType} {rm2 : Room} {o : Option (Int32 × wg_M)} {κ : Int32 → wg_M → Option (Int32 × wg_M)} (As rest : List Value) (hE : wg_sx E S) (hd : decode cc pc = .ok (.invokevirtual idx, 3)) (hm : Cond.methodLink own idx y ∈ wg_T ∧ Cond.instanceMethod y ∈ wg_T ∧ Cond.selects y.cls y y ∈ wg_T) (hcl : y.cls = "java/lang/String") (hY : wg_Y y cc2 nL2 rt2 n) (hM : ∀ q, o = some q → wg_MG l E S y cc2 nL2 rt2 rm2 (.float 0 :: As) σ (some q.1) q.2) (hn : As.length = n) (hst : st = As.reverse ++ .float 0 :: rest) (h8 : rest.length ≤ 8) (hR : wg_rm2 R rm2 nL2) (h : wg_bd o κ = some z) (k : ∀ v σ1, κ v σ1 = some z → wg_G l E S own cc nL rt R r σ' (pc + 3) L (.int v :: rest) σ1) : wg_G l E S own cc nL rt R r σ' pc L st σ := by
  intro p e s m args below meth c H locs ls hx hb hml hr hlk ho hts hK hO hP hS hL
  obtain ⟨q, ho1, h1⟩ := wg_bd_of h
  refine wg_after (r2 := (some q.1)) (σ2 := q.2) (rest := rest) (a := (.ref E.2.2.2.2.1.1 :: As.map (wg_sh E)).toArray) hx hb hml hr hlk ho hts hK hO hS hL ?_ (k q.1 q.2 h1)
  have hrec := vk_recv (hE s hK.2.2).2.1 (i := 0) (by decide) hS
  rw [← hcl] at hrec
  exact va_runV (n := n) ⟨hx, hb, hml, ho, hts⟩ (hM q ho1) ⟨callB_of n hts (wg_good hY) rfl hR.1 hR.2.1 (hts _ hY.1) (hts _ hm.1) hY.2.2 ⟨hR.2.2.1, hR.2.2.2⟩, hts _ hm.2.1, hts _ hm.2.2⟩ ⟨wg_blind _, hrec, fun U hU hW => ⟨rfl, hO, hK.to hO hS hU hW, by rw [hU]; exact hP⟩⟩ rfl (by rw [List.length_map]; exact hn) hL.1 (by rw [hst]; simp [wg_sh]) (by rw [wg_cat]; simpa using h8) hd ⟨by rw [Nat.zero_add]; exact Nat.zero_le _, by rw [Nat.zero_add]; exact Nat.zero_le _⟩
theorem wr_sval (hE : wg_sx E S) {idx : Nat} (hw : Cond.fieldLink own idx "java/lang/String" "value" "[B" ∈ wg_T) (hd : decode cc pc = .ok (.getfield idx, 3)) (k : wg_G l E S own cc nL rt R r σ' (pc + 3) L (.retAddr 0 :: st) σ) : wg_G l E S own cc nL rt R r σ' pc L (.float 0 :: st) σ := by
  intro p e s m args below meth c H locs ls hx hb hml hr hlk ho hts hK hO hP hS hL
  exact vk_getf hx hb (((hE s hK.2.2).2.1.1 0 (by decide)).2.2.1) hS ho (hts _ hw) (fun _ h9 => h9) hd (k p e s m args below meth c H locs ls hx hb hml hr hlk ho hts hK hO hP hS hL)
theorem wr_scod (hE : wg_sx E S) {idx : Nat} (hw : Cond.fieldLink own idx "java/lang/String" "coder" "B" ∈ wg_T) (hd : decode cc pc = .ok (.getfield idx, 3)) (k : wg_G l E S own cc nL rt R r σ' (pc + 3) L (.int 0 :: st) σ) : wg_G l E S own cc nL rt R r σ' pc L (.float 0 :: st) σ := by
  intro p e s m args below meth c H locs ls hx hb hml hr hlk ho hts hK hO hP hS hL
  exact vk_getf hx hb (((hE s hK.2.2).2.1.1 0 (by decide)).2.1) hS ho (hts _ hw) (fun _ h9 => h9) hd (k p e s m args below meth c H locs ls hx hb hml hr hlk ho hts hK hO hP hS hL)
theorem wr_scmp (hE : wg_sx E S) {idx : Nat} (hw : Cond.fieldLink own idx "java/lang/String" "COMPACT_STRINGS" "Z" ∈ wg_T) (hd : decode cc pc = .ok (.getstatic idx, 3)) (k : wg_G l E S own cc nL rt R r σ' (pc + 3) L (.int 1 :: st) σ) : wg_G l E S own cc nL rt R r σ' pc L st σ := by
  intro p e s m args below meth c H locs ls hx hb hml hr hlk ho hts hK hO hP hS hL
  exact va_gets hx hb (hE s hK.2.2).2.2.1 hS ho (hts _ hw) (fun _ h9 => h9) hd (k p e s m args below meth c H locs ls hx hb hml hr hlk ho hts hK hO hP hS hL)
theorem wr_sfmt (hE : wg_sx E S) {idx : Nat} (hw : Cond.fieldLink own idx "jdk/internal/util/Preconditions" "SIOOBE_FORMATTER" "Ljava/util/function/BiFunction;" ∈ wg_T) (hd : decode cc pc = .ok (.getstatic idx, 3)) (k : wg_G l E S own cc nL rt R r σ' (pc + 3) L (.null :: st) σ) : wg_G l E S own cc nL rt R r σ' pc L st σ := by
  intro p e s m args below meth c H locs ls hx hb hml hr hlk ho hts hK hO hP hS hL
  exact va_gets hx hb (hE s hK.2.2).2.2.2 hS ho (hts _ hw) (fun _ h9 => h9) hd (k p e s m args below meth c H locs ls hx hb hml hr hlk ho hts hK hO hP hS hL)
theorem wr_slen (hE : wg_sx E S) (hd : decode cc pc = .ok (.arraylength, 1)) (k : wg_G l E S own cc nL rt R r σ' (pc + 1) L (.int 128 :: st) σ) : wg_G l E S own cc nL rt R r σ' pc L (.retAddr 0 :: st) σ := by
  intro p e s m args below meth c H locs ls hx hb hml hr hlk ho hts hK hO hP hS hL
  exact va_tlen (N := 128) hx hb (((hE s hK.2.2).2.1.1 0 (by decide)).2.2.2) hS rfl hd (k p e s m args below meth c H locs ls hx hb hml hr hlk ho hts hK hO hP hS hL)
theorem wr_sbal (hE : wg_sx E S) {j : Int32} {κ : Int32 → Option (Int32 × wg_M)} (hd : decode cc pc = .ok (.baload, 1)) (h : (if 0 ≤ j.toInt ∧ j.toInt < (128 : Nat) then κ (wg_wb.getD j.toNatClampNeg 0) else none) = some z) (k : ∀ v, κ v = some z → v = wg_wb.getD j.toNatClampNeg 0 → wg_G l E S own cc nL rt R r σ' (pc + 1) L (.int v :: st) σ) : wg_G l E S own cc nL rt R r σ' pc L (.int j :: .retAddr 0 :: st) σ := by
  intro p e s m args below meth c H locs ls hx hb hml hr hlk ho hts hK hO hP hS hL
  obtain ⟨hj, h⟩ := wg_if h
  exact va_tb (N := 128) hx hb (((hE s hK.2.2).2.1.1 0 (by decide)).2.2.2) hS (vp_in_iff.mpr hj) rfl hd (k _ h rfl p e s m args below meth c H locs ls hx hb hml hr hlk ho hts hK hO hP hS hL)
theorem wr_i2c {x : Int32} (hd : decode cc pc = .ok (.i2c, 1)) (k : wg_G l E S own cc nL rt R r σ' (pc + 1) L (.int ((x.toUInt32 % 65536).toInt32) :: st) σ) : wg_G l E S own cc nL rt R r σ' pc L (.int x :: st) σ := by
  intro p e s m args below meth c H locs ls hx hb hml hr hlk ho hts hK hO hP hS hL
  exact lv_i2c hx hb hd rfl (k p e s m args below meth c H locs ls hx hb hml hr hlk ho hts hK hO hP hS hL)
theorem wr_tret {x : Int32} {ty : FieldType} (hd : decode cc pc = .ok (.ireturn, 1)) (hn : narrow ty (.int x) = .int x) (h : some (x, σ) = some z) : wg_G l E S own cc nL (some ty) R (some z.1) z.2 pc L [.int x] σ := by
  intro p e s m args below meth c H locs ls hx hb hml hr hlk ho hts hK hO hP hS hL
  cases h
  exact W.zret hx hb hr hn (fun t ht hW => ⟨rfl, by rw [ht]; exact hP, hS.F ht⟩) hS.2.2 hd hlk
theorem wr_aloadS {i : Fin 4} (hd : decode cc pc = .ok (.aload_n i, 1)) (hv : L[(i : Nat)]? = some (some (.float 0))) (k : wg_G l E S own cc nL rt R r σ' (pc + 1) L (.float 0 :: st) σ) : wg_G l E S own cc nL rt R r σ' pc L st σ :=
  fun p e s m args below meth c H locs ls hx hb hml hr hlk ho hts hK hO hP hS hL => lv_aload_n hx hb hd rfl (hL.at hv) (k p e s m args below meth c H locs ls hx hb hml hr hlk ho hts hK hO hP hS hL)
theorem wr_aloadB {i : Fin 4} (hd : decode cc pc = .ok (.aload_n i, 1)) (hv : L[(i : Nat)]? = some (some (.retAddr 0))) (k : wg_G l E S own cc nL rt R r σ' (pc + 1) L (.retAddr 0 :: st) σ) : wg_G l E S own cc nL rt R r σ' pc L st σ :=
  fun p e s m args below meth c H locs ls hx hb hml hr hlk ho hts hK hO hP hS hL => lv_aload_n hx hb hd rfl (hL.at hv) (k p e s m args below meth c H locs ls hx hb hml hr hlk ho hts hK hO hP hS hL)
end WT
def tb_J0_coder_7d493 : List (Nat × Instr × Nat) := [(0, .getstatic 38, 3), (3, .ifCond .eq 10, 3), (6, .aload_n 0, 1), (7, .getfield 15, 3), (10, .goto 4, 3), (13, .iconst 1, 1), (14, .ireturn, 1)]
theorem dt_J0_coder_7d493 : wg_dc cJ0_coder_7d493 tb_J0_coder_7d493 := by unfold wg_dc; decide +kernel
abbrev rm_J0_coder_7d493 : Room := { frames := 0, cells := 0, slots := 0, locals := 0 }
def f_J0_coder_7d493 (σ : wg_M) : Option (Int32 × wg_M) := some (0, σ)
theorem g_J0_coder_7d493 (l : Launch) (E : wg_E) (hE : wg_sx E Sc) (σ : wg_M) (z : Int32 × wg_M) (h : f_J0_coder_7d493 σ = some z) : wg_G l E Sc "java/lang/String" cJ0_coder_7d493 1 (some .byte) rm_J0_coder_7d493 (some z.1) z.2 0 [some (.float 0)] [] σ := by
  refine wr_scmp hE wq_4_106 (wg_da dt_J0_coder_7d493 0 rfl) ?_
  refine wr_if_eq (A := none) (B := some (0, σ)) 13 (wg_da dt_J0_coder_7d493 1 rfl) (by decide) h (fun h => ?_) (fun h => ?_)
  · cases h
  · refine wr_aloadS (wg_da dt_J0_coder_7d493 2 rfl) rfl ?_
    refine wr_scod hE wq_9_179 (wg_da dt_J0_coder_7d493 3 rfl) ?_
    refine wr_goto 14 (wg_da dt_J0_coder_7d493 4 rfl) (by decide) ?_
    exact wr_tret (wg_da dt_J0_coder_7d493 6 rfl) rfl h
theorem m_J0_coder_7d493 (l : Launch) (E : wg_E) (hE : wg_sx E Sc) (σ : wg_M) (q : Int32 × wg_M) (h : f_J0_coder_7d493 σ = some q) : wg_MG l E Sc yJ0_coder_7d493 cJ0_coder_7d493 1 (some .byte) rm_J0_coder_7d493 [.float 0] σ (some q.1) q.2 :=
  wg_met [.float 0] (by decide +kernel) (Nat.le_of_ble_eq_true rfl) (g_J0_coder_7d493 l E hE σ q h)
def tb_J0_isLatin1_aae02 : List (Nat × Instr × Nat) := [(0, .getstatic 38, 3), (3, .ifCond .eq 14, 3), (6, .aload_n 0, 1), (7, .getfield 15, 3), (10, .ifCond .ne 7, 3), (13, .iconst 1, 1), (14, .goto 4, 3), (17, .iconst 0, 1), (18, .ireturn, 1)]
theorem dt_J0_isLatin1_aae02 : wg_dc cJ0_isLatin1_aae02 tb_J0_isLatin1_aae02 := by unfold wg_dc; decide +kernel
abbrev rm_J0_isLatin1_aae02 : Room := { frames := 0, cells := 0, slots := 0, locals := 0 }
def f_J0_isLatin1_aae02 (σ : wg_M) : Option (Int32 × wg_M) := some (1, σ)
theorem g_J0_isLatin1_aae02 (l : Launch) (E : wg_E) (hE : wg_sx E Sc) (σ : wg_M) (z : Int32 × wg_M) (h : f_J0_isLatin1_aae02 σ = some z) : wg_G l E Sc "java/lang/String" cJ0_isLatin1_aae02 1 (some .boolean) rm_J0_isLatin1_aae02 (some z.1) z.2 0 [some (.float 0)] [] σ := by
  refine wr_scmp hE wq_4_106 (wg_da dt_J0_isLatin1_aae02 0 rfl) ?_
  refine wr_if_eq (A := none) (B := some (1, σ)) 17 (wg_da dt_J0_isLatin1_aae02 1 rfl) (by decide) h (fun h => ?_) (fun h => ?_)
  · cases h
  · refine wr_aloadS (wg_da dt_J0_isLatin1_aae02 2 rfl) rfl ?_
    refine wr_scod hE wq_9_179 (wg_da dt_J0_isLatin1_aae02 3 rfl) ?_
    refine wr_if_ne (A := none) (B := some (1, σ)) 17 (wg_da dt_J0_isLatin1_aae02 4 rfl) (by decide) h (fun h => ?_) (fun h => ?_)
    · refine wr_iconst (1 : Int32) (wg_da dt_J0_isLatin1_aae02 5 rfl) (by decide) ?_
      refine wr_goto 18 (wg_da dt_J0_isLatin1_aae02 6 rfl) (by decide) ?_
      exact wr_zret1 (wg_da dt_J0_isLatin1_aae02 8 rfl) h
    · cases h
theorem m_J0_isLatin1_aae02 (l : Launch) (E : wg_E) (hE : wg_sx E Sc) (σ : wg_M) (q : Int32 × wg_M) (h : f_J0_isLatin1_aae02 σ = some q) : wg_MG l E Sc yJ0_isLatin1_aae02 cJ0_isLatin1_aae02 1 (some .boolean) rm_J0_isLatin1_aae02 [.float 0] σ (some q.1) q.2 :=
  wg_met [.float 0] (by decide +kernel) (Nat.le_of_ble_eq_true rfl) (g_J0_isLatin1_aae02 l E hE σ q h)
def tb_J3_checkIndex_8e157 : List (Nat × Instr × Nat) := [(0, .iload_n 0, 1), (1, .ifCond .lt 8, 3), (4, .iload_n 0, 1), (5, .iload_n 1, 1), (6, .if_icmp .lt 10, 3), (9, .aload_n 2, 1), (10, .iload_n 0, 1), (11, .iload_n 1, 1), (12, .invokestatic 95, 3), (15, .athrow, 1), (16, .iload_n 0, 1), (17, .ireturn, 1)]
theorem dt_J3_checkIndex_8e157 : wg_dc cJ3_checkIndex_8e157 tb_J3_checkIndex_8e157 := by unfold wg_dc; decide +kernel
abbrev rm_J3_checkIndex_8e157 : Room := { frames := 0, cells := 0, slots := 0, locals := 0 }
def f_J3_checkIndex_8e157 (x0 : Int32) (σ : wg_M) : Option (Int32 × wg_M) := if x0 < 0 then none else if x0 < 128 then some (x0, σ) else none
theorem g_J3_checkIndex_8e157 (l : Launch) (E : wg_E) (hE : wg_sx E Sc) (x0 : Int32) (σ : wg_M) (z : Int32 × wg_M) (h : f_J3_checkIndex_8e157 x0 σ = some z) : wg_G l E Sc "jdk/internal/util/Preconditions" cJ3_checkIndex_8e157 3 (some .int) rm_J3_checkIndex_8e157 (some z.1) z.2 0 [some (.int x0), some (.int 128), some .null] [] σ := by
  refine wr_iload_n (wg_da dt_J3_checkIndex_8e157 0 rfl) rfl ?_
  refine wr_if_lt 9 (wg_da dt_J3_checkIndex_8e157 1 rfl) (by decide) h (fun h => ?_) (fun h => ?_)
  · cases h
  · refine wr_iload_n (wg_da dt_J3_checkIndex_8e157 2 rfl) rfl ?_
    refine wr_iload_n (wg_da dt_J3_checkIndex_8e157 3 rfl) rfl ?_
    refine wr_icmp_lt 16 (wg_da dt_J3_checkIndex_8e157 4 rfl) (by decide) h (fun h => ?_) (fun h => ?_)
    · refine wr_iload_n (wg_da dt_J3_checkIndex_8e157 10 rfl) rfl ?_
      exact wr_iret (wg_da dt_J3_checkIndex_8e157 11 rfl) h
    · cases h
theorem m_J3_checkIndex_8e157 (l : Launch) (E : wg_E) (hE : wg_sx E Sc) (x0 : Int32) (σ : wg_M) (q : Int32 × wg_M) (h : f_J3_checkIndex_8e157 x0 σ = some q) : wg_MG l E Sc yJ3_checkIndex_8e157 cJ3_checkIndex_8e157 3 (some .int) rm_J3_checkIndex_8e157 [.int x0, .int 128, .null] σ (some q.1) q.2 :=
  wg_met [.int x0, .int 128, .null] (by decide +kernel) (Nat.le_of_ble_eq_true rfl) (g_J3_checkIndex_8e157 l E hE x0 σ q h)
def tb_J0_checkIndex_df160 : List (Nat × Instr × Nat) := [(0, .iload_n 0, 1), (1, .iload_n 1, 1), (2, .getstatic 1053, 3), (5, .invokestatic 1059, 3), (8, .pop, 1), (9, .return_, 1)]
theorem dt_J0_checkIndex_df160 : wg_dc cJ0_checkIndex_df160 tb_J0_checkIndex_df160 := by unfold wg_dc; decide +kernel
abbrev rm_J0_checkIndex_df160 : Room := { frames := 1, cells := 0, slots := 0, locals := 22 }
def f_J0_checkIndex_df160 (x0 : Int32) (σ : wg_M) : Option (Int32 × wg_M) := wg_bd (f_J3_checkIndex_8e157 x0 σ) (fun _ s1 => some (0, s1))
theorem g_J0_checkIndex_df160 (l : Launch) (E : wg_E) (hE : wg_sx E Sc) (x0 : Int32) (σ : wg_M) (z : Int32 × wg_M) (h : f_J0_checkIndex_df160 x0 σ = some z) : wg_G l E Sc "java/lang/String" cJ0_checkIndex_df160 2 none rm_J0_checkIndex_df160 none z.2 0 [some (.int x0), some (.int 128)] [] σ := by
  refine wr_iload_n (wg_da dt_J0_checkIndex_df160 0 rfl) rfl ?_
  refine wr_iload_n (wg_da dt_J0_checkIndex_df160 1 rfl) rfl ?_
  refine wr_sfmt hE wq_4_122 (wg_da dt_J0_checkIndex_df160 2 rfl) ?_
  refine wr_callSi [.int x0, .int 128, .null] [] (wg_da dt_J0_checkIndex_df160 3 rfl) ⟨wq_4_124, wq_4_125⟩ wy_J3_checkIndex_8e157 (fun q hq => m_J3_checkIndex_8e157 l E hE x0 _ q hq) rfl rfl (Nat.le_of_ble_eq_true rfl) ⟨rfl, rfl, by decide, by decide⟩ h (fun _ s1 h => ?_)
  refine wr_pop (wg_da dt_J0_checkIndex_df160 4 rfl) ?_
  exact wr_vret (wg_da dt_J0_checkIndex_df160 5 rfl) h
theorem m_J0_checkIndex_df160 (l : Launch) (E : wg_E) (hE : wg_sx E Sc) (x0 : Int32) (σ : wg_M) (q : Int32 × wg_M) (h : f_J0_checkIndex_df160 x0 σ = some q) : wg_MG l E Sc yJ0_checkIndex_df160 cJ0_checkIndex_df160 2 none rm_J0_checkIndex_df160 [.int x0, .int 128] σ none q.2 :=
  wg_met [.int x0, .int 128] (by decide +kernel) (Nat.le_of_ble_eq_true rfl) (g_J0_checkIndex_df160 l E hE x0 σ q h)
def tb_J1_charAt_3b067 : List (Nat × Instr × Nat) := [(0, .iload_n 1, 1), (1, .aload_n 0, 1), (2, .arraylength, 1), (3, .invokestatic 9, 3), (6, .aload_n 0, 1), (7, .iload_n 1, 1), (8, .baload, 1), (9, .sipush 255, 3), (12, .iand, 1), (13, .i2c, 1), (14, .ireturn, 1)]
theorem dt_J1_charAt_3b067 : wg_dc cJ1_charAt_3b067 tb_J1_charAt_3b067 := by unfold wg_dc; decide +kernel
abbrev rm_J1_charAt_3b067 : Room := { frames := 2, cells := 0, slots := 0, locals := 43 }
def f_J1_charAt_3b067 (x1 : Int32) (σ : wg_M) : Option (Int32 × wg_M) := wg_bd (f_J0_checkIndex_df160 x1 σ) (fun _ s1 => if 0 ≤ x1.toInt ∧ x1.toInt < (128 : Nat) then some (wg_wb.getD x1.toNatClampNeg 0, s1) else none)
theorem wg_wb_c : ∀ v ∈ wg_wb, ((v &&& 255).toUInt32 % 65536).toInt32 = v ∧ narrow .char (.int v) = .int v := by decide +kernel
theorem wg_wb_d {j : Nat} : ((wg_wb.getD j 0 &&& 255).toUInt32 % 65536).toInt32 = wg_wb.getD j 0 ∧ narrow .char (.int (wg_wb.getD j 0)) = .int (wg_wb.getD j 0) := by
  rw [List.getD_eq_getElem?_getD]
  cases hq : wg_wb[j]? with
  | none => exact ⟨by decide +kernel, by decide +kernel⟩
  | some v => exact wg_wb_c v (List.mem_of_getElem? hq)
theorem g_J1_charAt_3b067 (l : Launch) (E : wg_E) (hE : wg_sx E Sc) (x1 : Int32) (σ : wg_M) (z : Int32 × wg_M) (h : f_J1_charAt_3b067 x1 σ = some z) : wg_G l E Sc "java/lang/StringLatin1" cJ1_charAt_3b067 2 (some .char) rm_J1_charAt_3b067 (some z.1) z.2 0 [some (.retAddr 0), some (.int x1)] [] σ := by
  refine wr_iload_n (wg_da dt_J1_charAt_3b067 0 rfl) rfl ?_
  refine wr_aloadB (wg_da dt_J1_charAt_3b067 1 rfl) rfl ?_
  refine wr_slen hE (wg_da dt_J1_charAt_3b067 2 rfl) ?_
  refine wr_callSv [.int x1, .int 128] [] (wg_da dt_J1_charAt_3b067 3 rfl) ⟨wq_4_119, wq_4_120⟩ wy_J0_checkIndex_df160 (fun q hq => m_J0_checkIndex_df160 l E hE x1 _ q hq) rfl rfl (Nat.le_of_ble_eq_true rfl) ⟨rfl, rfl, by decide, by decide⟩ h (fun _ s1 h => ?_)
  refine wr_aloadB (wg_da dt_J1_charAt_3b067 4 rfl) rfl ?_
  refine wr_iload_n (wg_da dt_J1_charAt_3b067 5 rfl) rfl ?_
  refine wr_sbal (κ := fun v => some (v, s1)) hE (wg_da dt_J1_charAt_3b067 6 rfl) h (fun v h hv => ?_)
  refine wr_sipush (255 : Int32) (wg_da dt_J1_charAt_3b067 7 rfl) (by decide) ?_
  refine wr_iand (wg_da dt_J1_charAt_3b067 8 rfl) ?_
  refine wr_i2c (wg_da dt_J1_charAt_3b067 9 rfl) ?_
  have h9 := @wg_wb_d x1.toNatClampNeg
  rw [← hv] at h9
  rw [h9.1]
  exact wr_tret (wg_da dt_J1_charAt_3b067 10 rfl) h9.2 h
theorem m_J1_charAt_3b067 (l : Launch) (E : wg_E) (hE : wg_sx E Sc) (x1 : Int32) (σ : wg_M) (q : Int32 × wg_M) (h : f_J1_charAt_3b067 x1 σ = some q) : wg_MG l E Sc yJ1_charAt_3b067 cJ1_charAt_3b067 2 (some .char) rm_J1_charAt_3b067 [.retAddr 0, .int x1] σ (some q.1) q.2 :=
  wg_met [.retAddr 0, .int x1] (by decide +kernel) (Nat.le_of_ble_eq_true rfl) (g_J1_charAt_3b067 l E hE x1 σ q h)
def tb_J0_length_8abf5 : List (Nat × Instr × Nat) := [(0, .aload_n 0, 1), (1, .getfield 9, 3), (4, .arraylength, 1), (5, .aload_n 0, 1), (6, .invokevirtual 335, 3), (9, .ishr, 1), (10, .ireturn, 1)]
theorem dt_J0_length_8abf5 : wg_dc cJ0_length_8abf5 tb_J0_length_8abf5 := by unfold wg_dc; decide +kernel
abbrev rm_J0_length_8abf5 : Room := { frames := 1, cells := 0, slots := 0, locals := 20 }
def f_J0_length_8abf5 (σ : wg_M) : Option (Int32 × wg_M) := wg_bd (f_J0_coder_7d493 σ) (fun v s1 => some ((128 : Int32) >>> (v &&& 31), s1))
theorem g_J0_length_8abf5 (l : Launch) (E : wg_E) (hE : wg_sx E Sc) (σ : wg_M) (z : Int32 × wg_M) (h : f_J0_length_8abf5 σ = some z) : wg_G l E Sc "java/lang/String" cJ0_length_8abf5 1 (some .int) rm_J0_length_8abf5 (some z.1) z.2 0 [some (.float 0)] [] σ := by
  refine wr_aloadS (wg_da dt_J0_length_8abf5 0 rfl) rfl ?_
  refine wr_sval hE wq_9_178 (wg_da dt_J0_length_8abf5 1 rfl) ?_
  refine wr_slen hE (wg_da dt_J0_length_8abf5 2 rfl) ?_
  refine wr_aloadS (wg_da dt_J0_length_8abf5 3 rfl) rfl ?_
  refine wr_callT [] [.int 128] hE (wg_da dt_J0_length_8abf5 4 rfl) ⟨wq_4_102, wq_4_103, wq_4_104⟩ rfl wy_J0_coder_7d493 (fun q hq => m_J0_coder_7d493 l E hE _ q hq) rfl rfl (Nat.le_of_ble_eq_true rfl) ⟨rfl, rfl, by decide, by decide⟩ h (fun v s1 h => ?_)
  refine wr_ishr (wg_da dt_J0_length_8abf5 5 rfl) ?_
  exact wr_iret (wg_da dt_J0_length_8abf5 6 rfl) h
theorem m_J0_length_8abf5 (l : Launch) (E : wg_E) (hE : wg_sx E Sc) (σ : wg_M) (q : Int32 × wg_M) (h : f_J0_length_8abf5 σ = some q) : wg_MG l E Sc yJ0_length_8abf5 cJ0_length_8abf5 1 (some .int) rm_J0_length_8abf5 [.float 0] σ (some q.1) q.2 :=
  wg_met [.float 0] (by decide +kernel) (Nat.le_of_ble_eq_true rfl) (g_J0_length_8abf5 l E hE σ q h)
def tb_J0_charAt_5068e : List (Nat × Instr × Nat) := [(0, .aload_n 0, 1), (1, .invokevirtual 492, 3), (4, .ifCond .eq 12, 3), (7, .aload_n 0, 1), (8, .getfield 9, 3), (11, .iload_n 1, 1), (12, .invokestatic 495, 3), (15, .ireturn, 1), (16, .aload_n 0, 1), (17, .getfield 9, 3), (20, .iload_n 1, 1), (21, .invokestatic 498, 3), (24, .ireturn, 1)]
theorem dt_J0_charAt_5068e : wg_dc cJ0_charAt_5068e tb_J0_charAt_5068e := by unfold wg_dc; decide +kernel
abbrev rm_J0_charAt_5068e : Room := { frames := 3, cells := 0, slots := 0, locals := 64 }
def f_J0_charAt_5068e (x1 : Int32) (σ : wg_M) : Option (Int32 × wg_M) := wg_bd (f_J0_isLatin1_aae02 σ) (fun v s1 => if v = 0 then none else wg_bd (f_J1_charAt_3b067 x1 s1) (fun v2 s2 => wg_ch v2 (some (v2, s2))))
theorem g_J0_charAt_5068e (l : Launch) (E : wg_E) (hE : wg_sx E Sc) (x1 : Int32) (σ : wg_M) (z : Int32 × wg_M) (h : f_J0_charAt_5068e x1 σ = some z) : wg_G l E Sc "java/lang/String" cJ0_charAt_5068e 2 (some .char) rm_J0_charAt_5068e (some z.1) z.2 0 [some (.float 0), some (.int x1)] [] σ := by
  refine wr_aloadS (wg_da dt_J0_charAt_5068e 0 rfl) rfl ?_
  refine wr_callT [] [] hE (wg_da dt_J0_charAt_5068e 1 rfl) ⟨wq_4_112, wq_4_113, wq_4_114⟩ rfl wy_J0_isLatin1_aae02 (fun q hq => m_J0_isLatin1_aae02 l E hE _ q hq) rfl rfl (Nat.le_of_ble_eq_true rfl) ⟨rfl, rfl, by decide, by decide⟩ h (fun v s1 h => ?_)
  refine wr_if_eq 16 (wg_da dt_J0_charAt_5068e 2 rfl) (by decide) h (fun h => ?_) (fun h => ?_)
  · cases h
  · refine wr_aloadS (wg_da dt_J0_charAt_5068e 3 rfl) rfl ?_
    refine wr_sval hE wq_9_178 (wg_da dt_J0_charAt_5068e 4 rfl) ?_
    refine wr_iload_n (wg_da dt_J0_charAt_5068e 5 rfl) rfl ?_
    refine wr_callSi [.retAddr 0, .int x1] [] (wg_da dt_J0_charAt_5068e 6 rfl) ⟨wq_4_116, wq_4_117⟩ wy_J1_charAt_3b067 (fun q hq => m_J1_charAt_3b067 l E hE x1 _ q hq) rfl rfl (Nat.le_of_ble_eq_true rfl) ⟨rfl, rfl, by decide, by decide⟩ h (fun v2 s2 h => ?_)
    obtain ⟨h1, h2⟩ := wg_if h
    exact wr_tret (wg_da dt_J0_charAt_5068e 7 rfl) h1 h2
theorem m_J0_charAt_5068e (l : Launch) (E : wg_E) (hE : wg_sx E Sc) (x1 : Int32) (σ : wg_M) (q : Int32 × wg_M) (h : f_J0_charAt_5068e x1 σ = some q) : wg_MG l E Sc yJ0_charAt_5068e cJ0_charAt_5068e 2 (some .char) rm_J0_charAt_5068e [.float 0, .int x1] σ (some q.1) q.2 :=
  wg_met [.float 0, .int x1] (by decide +kernel) (Nat.le_of_ble_eq_true rfl) (g_J0_charAt_5068e l E hE x1 σ q h)

/-- the text of the KEYWORDS -/
def wg_wb : List Int32 := [97, 103, 101, 32, 109, 105, 110, 100, 32, 99, 111, 108, 111, 117, 114, 32, 104, 97, 105, 114, 32, 105, 116, 99, 104, 32, 108, 101, 110, 116, 32, 99, 97, 117, 115, 101, 32, 119, 101, 105, 103, 104, 116, 32, 116, 114, 105, 101, 100, 32, 121, 101, 97, 114, 32, 99, 111, 117, 110, 116, 115, 32, 109, 111, 116, 104, 32, 100, 105, 101, 115, 32, 119, 104, 101, 110, 32, 111, 114, 32, 97, 110, 100, 32, 110, 111, 116, 32, 105, 110, 32, 99, 97, 115, 101, 32, 98, 101, 102, 111, 114, 101, 32, 119, 105, 103, 32, 111, 110, 32, 111, 102, 102, 32, 99, 111, 109, 98, 32, 98, 114, 117, 115, 104, 32, 111, 102, 32]
def wg_tx : String := "age mind colour hair itch lent cause weight tried year counts moth dies when or and not in case before wig on off comb brush of "
def wg_str (E : wg_E) (S : wg_S) (U : State) : Prop := vk_R "WornWigs$Reader" 88 wg_tx E.2.2.2.2.1 U ∧ (∃ sv : Nat, vk_S 1 [128] [wg_wb] (fun _ => E.2.2.2.2.1) (fun _ => sv) (wg_A E S) U U.heap) ∧ va_Z "java/lang/String" "COMPACT_STRINGS" "Z" (.int 1) (wg_A E S) U U.heap ∧ ∃ v : Value, v.category = 1 ∧ va_Z "jdk/internal/util/Preconditions" "SIOOBE_FORMATTER" "Ljava/util/function/BiFunction;" v (wg_A E S) U U.heap
def wg_sx (E : wg_E) (S : wg_S) : Prop := ∀ U : State, E.2.2.2.2.2 U → wg_str E S U
def f_J0_length_8abf5 (σ : wg_M) : Option (Int32 × wg_M) := some (128, σ)
def f_J0_charAt_5068e (x1 : Int32) (σ : wg_M) : Option (Int32 × wg_M) := if 0 ≤ x1.toInt ∧ x1.toInt < 128 then some (wg_wb.getD x1.toNatClampNeg 0, σ) else none
section WT
variable {l : Launch} {E : wg_E} {S : wg_S} {own : String} {cc : ByteArray} {nL : Nat} {rt : Option FieldType} {R : Room} {r : Option Int32} {σ' : wg_M} {pc : Nat} {L : List (Option Value)} {st : List Value} {σ : wg_M} {z : Int32 × wg_M}
theorem wr_ldcs (hE : wg_sx E S) (hown : own = "WornWigs$Reader") (hd : decode cc pc = .ok (.ldc 88, 2)) (k : wg_G l E S own cc nL rt R r σ' (pc + 2) L (.float 0 :: st) σ) : wg_G l E S own cc nL rt R r σ' pc L st σ := by
  intro p e s m args below meth c H locs ls hx hb hml hr hlk ho hts hK hO hP hS hL
  subst hown
  exact va_ldcS hx hb ho (hE s hK.2.2).1 hd (k p e s m args below meth c H locs ls hx hb hml hr hlk ho hts hK hO hP hS hL)
theorem wr_callT {idx n nL2 : Nat} {y : MethodName} {cc2 : ByteArray} {rt2 : Option FieldType} {rm2 : Room} {o : Option (Int32 × wg_M)} {κ : Int32 → wg_M → Option (Int32 × wg_M)} (As rest : List Value) (hE : wg_sx E S) (hd : decode cc pc = .ok (.invokevirtual idx, 3)) (hm : Cond.methodLink own idx y ∈ wg_T ∧ Cond.instanceMethod y ∈ wg_T ∧ Cond.selects y.cls y y ∈ wg_T) (hcl : y.cls = "java/lang/String") (hY : wg_Y y cc2 nL2 rt2 n) (hM : ∀ q, o = some q → wg_MG l E S y cc2 nL2 rt2 rm2 (.float 0 :: As) σ (some q.1) q.2) (hn : As.length = n) (hst : st = As.reverse ++ .float 0 :: rest) (h8 : rest.length ≤ 8) (hR : wg_rm2 R rm2 nL2) (h : wg_bd o κ = some z) (k : ∀ v σ1, κ v σ1 = some z → wg_G l E S own cc nL rt R r σ' (pc + 3) L (.int v :: rest) σ1) : wg_G l E S own cc nL rt R r σ' pc L st σ := by
  intro p e s m args below meth c H locs ls hx hb hml hr hlk ho hts hK hO hP hS hL
  obtain ⟨q, ho1, h1⟩ := wg_bd_of h
  refine wg_after (r2 := (some q.1)) (σ2 := q.2) (rest := rest) (a := (.ref E.2.2.2.2.1 :: As.map (wg_sh E)).toArray) hx hb hml hr hlk ho hts hK hO hS hL ?_ (k q.1 q.2 h1)
  obtain ⟨sv, hv⟩ := (hE s hK.2.2).2.1
  have hrec := vk_recv hv (i := 0) (by decide) hS
  rw [← hcl] at hrec
  exact va_runV (n := n) ⟨hx, hb, hml, ho, hts⟩ (hM q ho1) ⟨callB_of n hts (wg_good hY) rfl hR.1 hR.2.1 (hts _ hY.1) (hts _ hm.1) hY.2.2 ⟨hR.2.2.1, hR.2.2.2⟩, hts _ hm.2.1, hts _ hm.2.2⟩ ⟨wg_blind _, hrec, fun U hU hW => ⟨rfl, hO, hK.to hO hS hU hW, by rw [hU]; exact hP⟩⟩ rfl (by rw [List.length_map]; exact hn) hL.1 (by rw [hst]; simp [wg_sh]) (by rw [wg_cat]; simpa using h8) hd ⟨by rw [Nat.zero_add]; exact Nat.zero_le _, by rw [Nat.zero_add]; exact Nat.zero_le _⟩
end WT
abbrev rm_J0_length_8abf5 : Room := { frames := 1, cells := 0, slots := 0, locals := 40 }
abbrev rm_J0_charAt_5068e : Room := { frames := 4, cells := 0, slots := 0, locals := 120 }
theorem m_J0_length_8abf5 (l : Launch) (E : wg_E) (hE : wg_sx E Sc) (σ : wg_M) (q : Int32 × wg_M) (h : f_J0_length_8abf5 σ = some q) : wg_MG l E Sc yJ0_length_8abf5 cJ0_length_8abf5 1 (some .int) rm_J0_length_8abf5 [.float 0] σ (some q.1) q.2 := sorry
theorem m_J0_charAt_5068e (l : Launch) (E : wg_E) (hE : wg_sx E Sc) (x1 : Int32) (σ : wg_M) (q : Int32 × wg_M) (h : f_J0_charAt_5068e x1 σ = some q) : wg_MG l E Sc yJ0_charAt_5068e cJ0_charAt_5068e 2 (some .char) rm_J0_charAt_5068e [.float 0, .int x1] σ (some q.1) q.2 := sorry

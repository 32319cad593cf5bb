section WC
variable {l : Launch} {E : wg_E} {S : wg_S} {own : String} {cc : ByteArray} {nL : Nat} {rt : Option FieldType} {R : Room} {r : Option Int32} {σ' : wg_M} {pc : Nat} {L : List (Option Value)} {st : List Value} {σ : wg_M} {z : Int32 × wg_M}
/-- what a call of y needs of the tables -/
def wg_Y (y : MethodName) (cc2 : ByteArray) (nL2 : Nat) (rt2 : Option FieldType) (n : Nat) : Prop := Cond.initialized y.cls ∈ wg_T ∧ Cond.code y cc2 nL2 rt2 ∈ wg_T ∧ (y.cls ≠ "java/lang/invoke/MethodHandle" ∧ y.cls ≠ "java/lang/invoke/VarHandle" ∧ (parseMethodDescriptor y.desc).map (fun d => d.parameters.length) = some n)
def wg_rm2 (R : Room) (rm : Room) (nL2 : Nat) : Prop := rm.cells = 0 ∧ rm.slots = 0 ∧ rm.frames + 1 ≤ R.frames ∧ 8 + (nL2 + 11) + rm.locals ≤ R.locals
theorem wg_good {y : MethodName} {cc2 : ByteArray} {nL2 n : Nat} {rt2 : Option FieldType} (h : wg_Y y cc2 nL2 rt2 n) : GoodIn wg_T (.code y cc2 nL2 rt2 :: wg_T) := fun w hw => by
  rcases List.mem_cons.mp hw with rfl | hw
  · exact wg_T_good _ h.2.1
  · exact wg_T_good _ hw
theorem wg_cat (E : wg_E) : ∀ rest : List Value, ((rest.map (wg_sh E)).map fun v => v.category).sum = rest.length
  | [] => rfl
  | v :: vs => by
    have := wg_cat E vs
    simp only [List.map_cons, List.sum_cons, wg_sh_cat, List.length_cons]
    omega
theorem wg_K.to {s U : State} {H : Heap} {locs : List Loc} (hK : wg_K E s) (hO : wg_OK E S) (hS : va_S (wg_A E S) s.heap H locs) (hU : U.heap = H) (hW : s.WarmedH U.vm) : wg_K E U :=
  ⟨va_K.moved hW.alike hK.1, fun q hq => va_Nw.warmM hW (hK.2.1 q hq), hO.2.2 s U hW (fun q h1 h2 => by rw [hU]; exact hS.2.1 q h1 h2) hK.2.2⟩
theorem wg_blind (As : List Value) : FrameBlind (va_Pc (As.map (wg_sh E)) (fun U => wg_OK E S ∧ wg_K E U ∧ va_P E.2.1 vwCl (wg_w E S σ) U.heap)) := by
  intro a U g mk ⟨h1, h2, h3, h4⟩
  refine ⟨h1, h2, ⟨va_K.moved (u := U) (U := U.calling g mk a) (Vm.Alike.refl U.vm) h3.1, fun q hq => va_Nw.same (u := U) (U := U.calling g mk a) rfl rfl (h3.2.1 q hq), ?_⟩, h4⟩
  exact h2.2.2 U (U.calling g mk a) (State.WarmedH.refl U) (fun q _ _ => rfl) h3.2.2
def wg_bd {α : Type} (o : Option (Int32 × wg_M)) (κ : Int32 → wg_M → Option α) : Option α := match o with
  | some q => κ q.1 q.2
  | none => none
theorem wg_bd_of {α : Type} {o : Option (Int32 × wg_M)} {κ : Int32 → wg_M → Option α} {x : α} (h : wg_bd o κ = some x) : ∃ q, o = some q ∧ κ q.1 q.2 = some x := by
  cases o with
  | none => cases h
  | some q => exact ⟨q, rfl, h⟩
/-- behind a call -/
theorem wg_after {p : Program} {e : Env} {s : State} {m : MethodId} {args : Array Value} {below : List Frame} {meth : Method} {c : Code} {H : Heap} {locs : List Loc} {ls : Array Slot} {rest : List Value} {st0 : List Value} {a : Array Value} {r2 : Option Int32} {σ2 : wg_M} (hx : p.tables.exec = Jvm.exec) (hb : c.code = cc) (hml : c.maxLocals = nL) (hr : meth.sig.returnType = rt) (hlk : meth.locks = false) (ho : s.vm.findClass own = some m.cls) (hts : ∀ w ∈ wg_T, w.before args s = true) (hK : wg_K E s) (hO : wg_OK E S) (hS : va_S (wg_A E S) s.heap H locs) (hL : wg_LH E L ls nL)
    (hrun : va_Run p l e R s m args below meth c H locs 0 0 0 0 (F0 m pc ls st0) (rest.map (wg_sh E)) (wg_Q E S r2 σ2 a) (wg_A E S))
    (k : wg_G l E S own cc nL rt R r σ' (pc + 3) L (r2.toList.map Value.int ++ rest) σ2) : W p l e R s m args below meth c H locs 0 0 (MQ below (wg_Q E S r σ') args s 0 0 (wg_A E S)) (F0 m pc ls st0) := by
  intro T hT X
  obtain ⟨v, st₀, t, T', L', h0, X', hL', e1, e2, ⟨hv, hP', hz, hk⟩, st'⟩ := hrun T hT X
  cases hv
  rw [h0] at hz hk
  have hS' : va_S (wg_A E S) s.heap T'.heap (locs ++ L') := ⟨Nat.le_trans hS.1 (by rw [e1]; exact hz), fun q h1 h2 => by rw [e1, hk q (Nat.lt_of_lt_of_le h1 hS.1) h2]; exact hS.2.1 q h1 h2, fun q hq => by
    rcases List.mem_append.mp hq with h | h
    · exact hS.2.2 q h
    · exact hL' q h⟩
  obtain ⟨t2, a1, b1⟩ := k p e s m args below meth c T'.heap (locs ++ L') ls hx hb hml hr hlk ho hts hK hO (by rw [e1]; exact hP') hS' hL T' rfl X'
  refine ⟨t2, st' t2 ?_, b1⟩
  have e3 : (r2.toList.map Value.int ++ rest).map (wg_sh E) = (r2.map Value.int).toList ++ rest.map (wg_sh E) := by
    cases r2 <;> simp [wg_sh]
  rw [e3] at a1
  exact a1
theorem wr_callVi {idx n nL2 : Nat} {y : MethodName} {cc2 : ByteArray} {rt2 : Option FieldType} {rm2 : Room} {b ci : Nat} {T : u_T} {N : Nat} {o : Option (Int32 × wg_M)} {κ : Int32 → wg_M → Option (Int32 × wg_M)} (As rest : List Value) (hd : decode cc pc = .ok (.invokevirtual idx, 3)) (hm : Cond.methodLink own idx y ∈ wg_T ∧ Cond.instanceMethod y ∈ wg_T ∧ Cond.selects y.cls y y ∈ wg_T) (hbt : wg_t S b = ci + 2) (hcl : vwCl[ci]? = some (y.cls, T, N) ∧ ci ≠ 998) (hY : wg_Y y cc2 nL2 rt2 n) (hM : ∀ q, o = some q → wg_MG l E S y cc2 nL2 rt2 rm2 (.ref b :: As) σ (some q.1) q.2) (hn : As.length = n) (hst : st = As.reverse ++ .ref b :: rest) (h8 : rest.length ≤ 8) (hR : wg_rm2 R rm2 nL2) (h : wg_bd o κ = some z) (k : ∀ v σ1, κ v σ1 = some z → wg_G l E S own cc nL rt R r σ' (pc + 3) L (.int v :: rest) σ1) : wg_G l E S own cc nL rt R r σ' pc L st σ := by
  intro p e s m args below meth c H locs ls hx hb hml hr hlk ho hts hK hO hP hS hL
  obtain ⟨q, ho1, h1⟩ := wg_bd_of h
  refine wg_after (r2 := (some q.1)) (σ2 := q.2) (rest := rest) (a := (.ref (E.1 b) :: As.map (wg_sh E)).toArray) hx hb hml hr hlk ho hts hK hO hS hL ?_ (k q.1 q.2 h1)
  · skip
    have hrec := va_recv hK.1 hP hcl.1 (wg_w_obj (σ := σ) hO hbt hcl.2)
    exact va_runV (n := n) ⟨hx, hb, hml, ho, hts⟩ (hM q ho1) ⟨callB_of n hts (wg_good hY) rfl hR.1 hR.2.1 (hts _ hY.1) (hts _ hm.1) hY.2.2 ⟨hR.2.2.1, hR.2.2.2⟩, hts _ hm.2.1, hts _ hm.2.2⟩ ⟨wg_blind _, hrec, fun U hU hW => ⟨rfl, hO, hK.to hO hS hU hW, by rw [hU]; exact hP⟩⟩ rfl (by rw [List.length_map]; exact hn) hL.1 (by rw [hst]; simp [wg_sh]) (by rw [wg_cat]; simpa using h8) hd ⟨by rw [Nat.zero_add]; exact Nat.zero_le _, by rw [Nat.zero_add]; exact Nat.zero_le _⟩
theorem wr_callVv {idx n nL2 : Nat} {y : MethodName} {cc2 : ByteArray} {rt2 : Option FieldType} {rm2 : Room} {b ci : Nat} {T : u_T} {N : Nat} {o : Option (Int32 × wg_M)} {κ : Int32 → wg_M → Option (Int32 × wg_M)} (As rest : List Value) (hd : decode cc pc = .ok (.invokevirtual idx, 3)) (hm : Cond.methodLink own idx y ∈ wg_T ∧ Cond.instanceMethod y ∈ wg_T ∧ Cond.selects y.cls y y ∈ wg_T) (hbt : wg_t S b = ci + 2) (hcl : vwCl[ci]? = some (y.cls, T, N) ∧ ci ≠ 998) (hY : wg_Y y cc2 nL2 rt2 n) (hM : ∀ q, o = some q → wg_MG l E S y cc2 nL2 rt2 rm2 (.ref b :: As) σ none q.2) (hn : As.length = n) (hst : st = As.reverse ++ .ref b :: rest) (h8 : rest.length ≤ 8) (hR : wg_rm2 R rm2 nL2) (h : wg_bd o κ = some z) (k : ∀ v σ1, κ v σ1 = some z → wg_G l E S own cc nL rt R r σ' (pc + 3) L rest σ1) : wg_G l E S own cc nL rt R r σ' pc L st σ := by
  intro p e s m args below meth c H locs ls hx hb hml hr hlk ho hts hK hO hP hS hL
  obtain ⟨q, ho1, h1⟩ := wg_bd_of h
  refine wg_after (r2 := none) (σ2 := q.2) (rest := rest) (a := (.ref (E.1 b) :: As.map (wg_sh E)).toArray) hx hb hml hr hlk ho hts hK hO hS hL ?_ (k q.1 q.2 h1)
  · skip
    have hrec := va_recv hK.1 hP hcl.1 (wg_w_obj (σ := σ) hO hbt hcl.2)
    exact va_runV (n := n) ⟨hx, hb, hml, ho, hts⟩ (hM q ho1) ⟨callB_of n hts (wg_good hY) rfl hR.1 hR.2.1 (hts _ hY.1) (hts _ hm.1) hY.2.2 ⟨hR.2.2.1, hR.2.2.2⟩, hts _ hm.2.1, hts _ hm.2.2⟩ ⟨wg_blind _, hrec, fun U hU hW => ⟨rfl, hO, hK.to hO hS hU hW, by rw [hU]; exact hP⟩⟩ rfl (by rw [List.length_map]; exact hn) hL.1 (by rw [hst]; simp [wg_sh]) (by rw [wg_cat]; simpa using h8) hd ⟨by rw [Nat.zero_add]; exact Nat.zero_le _, by rw [Nat.zero_add]; exact Nat.zero_le _⟩
theorem wr_callSi {idx n nL2 : Nat} {y : MethodName} {cc2 : ByteArray} {rt2 : Option FieldType} {rm2 : Room}  {o : Option (Int32 × wg_M)} {κ : Int32 → wg_M → Option (Int32 × wg_M)} (As rest : List Value) (hd : decode cc pc = .ok (.invokestatic idx, 3)) (hm : Cond.methodLink own idx y ∈ wg_T ∧ Cond.static y ∈ wg_T) (hY : wg_Y y cc2 nL2 rt2 n) (hM : ∀ q, o = some q → wg_MG l E S y cc2 nL2 rt2 rm2 As σ (some q.1) q.2) (hn : As.length = n) (hst : st = As.reverse ++ rest) (h8 : rest.length ≤ 8) (hR : wg_rm2 R rm2 nL2) (h : wg_bd o κ = some z) (k : ∀ v σ1, κ v σ1 = some z → wg_G l E S own cc nL rt R r σ' (pc + 3) L (.int v :: rest) σ1) : wg_G l E S own cc nL rt R r σ' pc L st σ := by
  intro p e s m args below meth c H locs ls hx hb hml hr hlk ho hts hK hO hP hS hL
  obtain ⟨q, ho1, h1⟩ := wg_bd_of h
  refine wg_after (r2 := (some q.1)) (σ2 := q.2) (rest := rest) (a := (As.map (wg_sh E)).toArray) hx hb hml hr hlk ho hts hK hO hS hL ?_ (k q.1 q.2 h1)
  · skip
    exact va_runS (n := n) ⟨hx, hb, hml, ho, hts⟩ (hM q ho1) ⟨callB_of n hts (wg_good hY) rfl hR.1 hR.2.1 (hts _ hY.1) (hts _ hm.1) hY.2.2 ⟨hR.2.2.1, hR.2.2.2⟩, hts _ hm.2⟩ ⟨wg_blind _, fun U hU hW => ⟨rfl, hO, hK.to hO hS hU hW, by rw [hU]; exact hP⟩⟩ rfl (by rw [List.length_map]; exact hn) hL.1 (by rw [hst]; simp) (by rw [wg_cat]; simpa using h8) hd ⟨by rw [Nat.zero_add]; exact Nat.zero_le _, by rw [Nat.zero_add]; exact Nat.zero_le _⟩
theorem wr_callSv {idx n nL2 : Nat} {y : MethodName} {cc2 : ByteArray} {rt2 : Option FieldType} {rm2 : Room}  {o : Option (Int32 × wg_M)} {κ : Int32 → wg_M → Option (Int32 × wg_M)} (As rest : List Value) (hd : decode cc pc = .ok (.invokestatic idx, 3)) (hm : Cond.methodLink own idx y ∈ wg_T ∧ Cond.static y ∈ wg_T) (hY : wg_Y y cc2 nL2 rt2 n) (hM : ∀ q, o = some q → wg_MG l E S y cc2 nL2 rt2 rm2 As σ none q.2) (hn : As.length = n) (hst : st = As.reverse ++ rest) (h8 : rest.length ≤ 8) (hR : wg_rm2 R rm2 nL2) (h : wg_bd o κ = some z) (k : ∀ v σ1, κ v σ1 = some z → wg_G l E S own cc nL rt R r σ' (pc + 3) L rest σ1) : wg_G l E S own cc nL rt R r σ' pc L st σ := by
  intro p e s m args below meth c H locs ls hx hb hml hr hlk ho hts hK hO hP hS hL
  obtain ⟨q, ho1, h1⟩ := wg_bd_of h
  refine wg_after (r2 := none) (σ2 := q.2) (rest := rest) (a := (As.map (wg_sh E)).toArray) hx hb hml hr hlk ho hts hK hO hS hL ?_ (k q.1 q.2 h1)
  · skip
    exact va_runS (n := n) ⟨hx, hb, hml, ho, hts⟩ (hM q ho1) ⟨callB_of n hts (wg_good hY) rfl hR.1 hR.2.1 (hts _ hY.1) (hts _ hm.1) hY.2.2 ⟨hR.2.2.1, hR.2.2.2⟩, hts _ hm.2⟩ ⟨wg_blind _, fun U hU hW => ⟨rfl, hO, hK.to hO hS hU hW, by rw [hU]; exact hP⟩⟩ rfl (by rw [List.length_map]; exact hn) hL.1 (by rw [hst]; simp) (by rw [wg_cat]; simpa using h8) hd ⟨by rw [Nat.zero_add]; exact Nat.zero_le _, by rw [Nat.zero_add]; exact Nat.zero_le _⟩
theorem wr_callNi {idx n nL2 : Nat} {y : MethodName} {cc2 : ByteArray} {rt2 : Option FieldType} {rm2 : Room}  {o : Option (Int32 × wg_M)} {κ : Int32 → wg_M → Option (Int32 × wg_M)} (As rest : List Value) (hd : decode cc pc = .ok (.invokestatic idx, 3)) (hm : (own, idx, y) ∈ wg_NW ∧ Cond.static y ∈ wg_T) (hY : wg_Y y cc2 nL2 rt2 n) (hM : ∀ q, o = some q → wg_MG l E S y cc2 nL2 rt2 rm2 As σ (some q.1) q.2) (hn : As.length = n) (hst : st = As.reverse ++ rest) (h8 : rest.length ≤ 8) (hR : wg_rm2 R rm2 nL2) (h : wg_bd o κ = some z) (k : ∀ v σ1, κ v σ1 = some z → wg_G l E S own cc nL rt R r σ' (pc + 3) L (.int v :: rest) σ1) : wg_G l E S own cc nL rt R r σ' pc L st σ := by
  intro p e s m args below meth c H locs ls hx hb hml hr hlk ho hts hK hO hP hS hL
  obtain ⟨q, ho1, h1⟩ := wg_bd_of h
  refine wg_after (r2 := (some q.1)) (σ2 := q.2) (rest := rest) (a := (As.map (wg_sh E)).toArray) hx hb hml hr hlk ho hts hK hO hS hL ?_ (k q.1 q.2 h1)
  · skip
    exact va_runSN (n := n) ⟨hx, hb, hml, ho, hts⟩ (hM q ho1) ⟨va_cnB n hts (wg_good hY) rfl hR.1 hR.2.1 (hK.2.1 _ hm.1) (hts _ hY.1) hY.2.2 ⟨hR.2.2.1, hR.2.2.2⟩, hts _ hm.2, trivial⟩ ⟨wg_blind _, fun U hU hW => ⟨rfl, hO, hK.to hO hS hU hW, by rw [hU]; exact hP⟩⟩ rfl (by rw [List.length_map]; exact hn) hL.1 (by rw [hst]; simp) (by rw [wg_cat]; simpa using h8) hd ⟨by rw [Nat.zero_add]; exact Nat.zero_le _, by rw [Nat.zero_add]; exact Nat.zero_le _⟩
theorem wr_callNv {idx n nL2 : Nat} {y : MethodName} {cc2 : ByteArray} {rt2 : Option FieldType} {rm2 : Room}  {o : Option (Int32 × wg_M)} {κ : Int32 → wg_M → Option (Int32 × wg_M)} (As rest : List Value) (hd : decode cc pc = .ok (.invokestatic idx, 3)) (hm : (own, idx, y) ∈ wg_NW ∧ Cond.static y ∈ wg_T) (hY : wg_Y y cc2 nL2 rt2 n) (hM : ∀ q, o = some q → wg_MG l E S y cc2 nL2 rt2 rm2 As σ none q.2) (hn : As.length = n) (hst : st = As.reverse ++ rest) (h8 : rest.length ≤ 8) (hR : wg_rm2 R rm2 nL2) (h : wg_bd o κ = some z) (k : ∀ v σ1, κ v σ1 = some z → wg_G l E S own cc nL rt R r σ' (pc + 3) L rest σ1) : wg_G l E S own cc nL rt R r σ' pc L st σ := by
  intro p e s m args below meth c H locs ls hx hb hml hr hlk ho hts hK hO hP hS hL
  obtain ⟨q, ho1, h1⟩ := wg_bd_of h
  refine wg_after (r2 := none) (σ2 := q.2) (rest := rest) (a := (As.map (wg_sh E)).toArray) hx hb hml hr hlk ho hts hK hO hS hL ?_ (k q.1 q.2 h1)
  · skip
    exact va_runSN (n := n) ⟨hx, hb, hml, ho, hts⟩ (hM q ho1) ⟨va_cnB n hts (wg_good hY) rfl hR.1 hR.2.1 (hK.2.1 _ hm.1) (hts _ hY.1) hY.2.2 ⟨hR.2.2.1, hR.2.2.2⟩, hts _ hm.2, trivial⟩ ⟨wg_blind _, fun U hU hW => ⟨rfl, hO, hK.to hO hS hU hW, by rw [hU]; exact hP⟩⟩ rfl (by rw [List.length_map]; exact hn) hL.1 (by rw [hst]; simp) (by rw [wg_cat]; simpa using h8) hd ⟨by rw [Nat.zero_add]; exact Nat.zero_le _, by rw [Nat.zero_add]; exact Nat.zero_le _⟩
theorem wg_ofW {y : MethodName} {ws ws' : List Cond} {rm : Room} {Pc : Array Value → State → Prop} {Qc : Array Value → State → Outcome → State → Prop} {mc ms : Nat} {free : Addr → Prop} {cc : ByteArray} {maxL : Nat} {ret : Option FieldType}
    (hy : plainFor y = true) (hw : ws = Cond.code y cc maxL ret :: ws')
    (body : ∀ p e s m args below meth c s₁, BodyLoose p l y (headSpec ws rm) cc maxL ret e s m args below meth c s₁ → c.maxLocals = maxL → Pc args s →
      W p l e (headSpec ws rm).room s m args below meth c s.heap [] 0 0 (MQ below Qc args s mc ms free) (entryFrame m args maxL)) : Met l y ws rm Pc Qc mc ms free := by
  refine MetFree.of_bodySF (code := cc) (maxLocals := maxL) (ret := ret) hy ?_ ?_
  · intro args s m h hn
    obtain ⟨meth, c, h1, h2, h3, h4, h5, h6, -, -⟩ := Cond.code_spec hn (atoms_spec (ws := ws) h _ (by rw [hw]; exact List.mem_cons_self))
    exact ⟨meth, c, h1, h2, h3, h4, h5, h6⟩
  · intro p e s m args below meth c s₁ B hml hP _
    have hh0 : s₁.heap = s.heap := by rw [B.state]; rfl
    obtain ⟨t, a1, o, b1, b2, b3⟩ := body p e s m args below meth c s₁ B hml hP s₁ hh0 (Stand.of_body B)
    exact ⟨t, o, a1, b1, b2, ⟨b3.1, b3.2⟩⟩
/-- a method's contract out of its judgement -/
theorem wg_met {y : MethodName} {rm : Room} (As : List Value) (hy : plainFor y = true) (hl : As.length ≤ nL) (h : wg_G l E S y.cls cc nL rt rm r σ' 0 (As.map some ++ List.replicate (nL - As.length) none) [] σ) : wg_MG l E S y cc nL rt rm As σ r σ' := by
  refine wg_ofW (cc := cc) (maxL := nL) (ret := rt) hy rfl ?_
  intro p e s m args below meth c s₁ B hml hv
  obtain ⟨rfl, hO, hK, hP⟩ := hv
  have hts := atoms_spec (ws := .code y cc nL rt :: wg_T) B.pre
  have hl0 : (lg_sl (As.map (wg_sh E))).length = As.length := by
    have : ∀ xs : List Value, (lg_sl (xs.map (wg_sh E))).length = xs.length := by
      intro xs
      induction xs with
      | nil => rfl
      | cons a as ih =>
        simp only [lg_sl, List.map_cons, List.flatMap_cons, wg_sh_cat, List.length_append] at ih ⊢
        rw [ih]
        simp
        omega
    exact this As
  have hl1 := lv_entry (As.map (wg_sh E)) (n := nL) (by rw [hl0]; exact hl)
  rw [lg_entry_eq]
  generalize (lg_sl (As.map (wg_sh E)) ++ List.replicate (nL - (lg_sl (As.map (wg_sh E))).length) Slot.unset).toArray = ls at hl1 ⊢
  refine h p e s m _ below meth c s.heap [] ls B.exec B.bytes hml B.returns B.notSynchronized (findClass_of_methodNamed B.named) (fun w hw => hts w (List.mem_cons_of_mem _ hw)) hK hO hP va_S.rf ?_
  refine ⟨hl1.1, hl1.2.1, fun q hq => hl1.2.2 q ?_⟩
  obtain ⟨v, h1, h2⟩ := wg_as_mem.mp hq
  have hA : As[q.1]? = some v := by
    rw [List.getElem?_append] at h1
    split at h1
    · rw [List.getElem?_map] at h1
      cases hh : As[q.1]? with
      | none => rw [hh] at h1; cases h1
      | some w => rw [hh] at h1; cases h1; rfl
    · rw [List.getElem?_replicate] at h1
      split at h1 <;> cases h1
  have hg : ∀ (xs : List Value) (b i : Nat) (w : Value), xs[i]? = some w → (b + i, wg_sh E w) ∈ lv_args b (xs.map (wg_sh E)) := by
    intro xs
    induction xs with
    | nil => intro b i w hw; simp at hw
    | cons a as ih =>
      intro b i w hw
      cases i with
      | zero =>
        simp at hw
        subst hw
        exact List.mem_cons_self
      | succ i =>
        have := ih (b + 1) i w (by simpa using hw)
        simp only [List.map_cons, lv_args, wg_sh_cat]
        refine List.mem_cons_of_mem _ ?_
        have e : b + (i + 1) = b + 1 + i := by omega
        rw [e]
        exact this
  have := hg As 0 q.1 v hA
  rw [Nat.zero_add, ← h2] at this
  exact this
end WC

section WX
variable {l : Launch} {F : wc_F} {own : String} {cc : ByteArray} {nL : Nat} {R : Room} {mc ms n0 : Nat} {ad0 : Nat → Nat} {w' : wc_W} {pc : Nat} {L st : List Value} {w : wc_W} {cells slots : Nat}
def wc_K (w : wc_W) (k : Nat) (o : wc_X) (new : wc_W) : wc_W := w.set k o ++ new
theorem wc_K_len {k : Nat} {o : wc_X} {new : wc_W} : (wc_K w k o new).length = w.length + new.length := by simp [wc_K]
theorem wc_K_k {k : Nat} {o : wc_X} {new : wc_W} (hk : k < w.length) : (wc_K w k o new)[k]? = some o := by
  rw [wc_K, List.getElem?_append_left (by simpa using hk), List.getElem?_set_self hk]
theorem wc_K_n {k i : Nat} {o q : wc_X} {new : wc_W} (h : new[i]? = some q) : (wc_K w k o new)[w.length + i]? = some q := by
  rw [wc_K, List.getElem?_append_right (by simp), List.length_set, Nat.add_sub_cancel_left, h]
theorem wc_K_o {k j : Nat} {o q : wc_X} {new : wc_W} (h : w[j]? = some q) (hj : j ≠ k) : (wc_K w k o new)[j]? = some q := by
  have hl : j < w.length := (List.getElem?_eq_some_iff.mp h).1
  rw [wc_K, List.getElem?_append_left (by simpa using hl), List.getElem?_set_ne (Ne.symm hj), h]
theorem wc_K_setk {k : Nat} {o o' : wc_X} {new : wc_W} (hk : k < w.length) : (wc_K w k o new).set k o' = wc_K w k o' new := by
  rw [wc_K, wc_K, List.set_append_left _ _ (by simpa using hk), List.set_set]
theorem wc_K_setn {k i : Nat} {o c : wc_X} {new : wc_W} : (wc_K w k o new).set (w.length + i) c = wc_K w k o (new.set i c) := by
  rw [wc_K, wc_K, List.set_append_right _ _ (by simp)]
  simp
theorem wc_K_push {k : Nat} {o c : wc_X} {new : wc_W} : wc_K w k o new ++ [c] = wc_K w k o (new ++ [c]) := by simp [wc_K]
theorem wc_K_call {k i : Nat} {o c : wc_X} {new nw : wc_W} : wc_K (wc_K w k o new) (w.length + i) c nw = wc_K w k o (new.set i c ++ nw) := by
  rw [wc_K, wc_K_setn]
  simp [wc_K]
theorem wk_newK {idx ci k : Nat} {o : wc_X} {new : wc_W} {C : String} {T : u_T} {N : Nat} {ty : Nat → FieldType} (m : Nat) (hCl : wg_C ci C T N ty) (hd : decode cc pc = .ok (.new idx, 3)) (hw : Cond.classLink own idx C ∈ wg_T ∧ Cond.instantiable C N ∈ wg_T ∧ Cond.initialized C ∈ wg_T) (hdf : ∀ (ad : Nat → Nat) (j : Nat), j < N → defaultValue (ty j) = vp_V ((wc_df ci).map (wc_v ad)) j) (hnr : ∀ j, .inr (some j) ∉ wc_df ci) (hm : new.length = m) (hc : cells + 1 ≤ R.cells) (hs : slots + N ≤ R.slots) (hlL : wc_lt (w.length + m) L) (hls : wc_lt (w.length + m) st) (hn0 : n0 ≤ w.length + m) (k1 : wc_G l F own cc nL R mc ms n0 ad0 w' (pc + 3) L (.ref (w.length + m) :: st) (wc_K w k o (new ++ [(ci + 2, 0, wc_df ci)])) (cells + 1) (slots + N)) : wc_G l F own cc nL R mc ms n0 ad0 w' pc L st (wc_K w k o new) cells slots := by
  subst hm
  refine wk_new hCl hd hw hdf hnr hc hs (by rw [wc_K_len]; exact hlL) (by rw [wc_K_len]; exact hls) (by rw [wc_K_len]; exact hn0) ?_
  rw [wc_K_push, wc_K_len]
  exact k1
theorem wk_newaK {n : Int32} {k : Nat} {o : wc_X} {new : wc_W} (N' m : Nat) (hd : decode cc pc = .ok (.newarray .int, 2)) (hw : Cond.arrayClass .int ∈ wg_T) (hn : ¬ n < 0) (hNn : n.toNatClampNeg = N') (hby : N' * 4 ≤ 536870912) (hm : new.length = m) (hc : cells + 1 ≤ R.cells) (hs : slots + N' ≤ R.slots) (hlL : wc_lt (w.length + m) L) (hls : wc_lt (w.length + m) st) (hn0 : n0 ≤ w.length + m) (k1 : wc_G l F own cc nL R mc ms n0 ad0 w' (pc + 2) L (.ref (w.length + m) :: st) (wc_K w k o (new ++ [(0, N', [])])) (cells + 1) (slots + N')) : wc_G l F own cc nL R mc ms n0 ad0 w' pc L (.int n :: st) (wc_K w k o new) cells slots := by
  subst hm
  refine wk_newa N' hd hw hn hNn hby hc hs (by rw [wc_K_len]; exact hlL) (by rw [wc_K_len]; exact hls) (by rw [wc_K_len]; exact hn0) ?_
  rw [wc_K_push, wc_K_len]
  exact k1
theorem wk_newqK {idx : Nat} {n : Int32} {k : Nat} {o : wc_X} {new : wc_W} (N' m : Nat) (hd : decode cc pc = .ok (.anewarray idx, 3)) (hw : Cond.classLink own idx "WornWigs$Bench" ∈ wg_T) (hn : ¬ n < 0) (hNn : n.toNatClampNeg = N') (hby : N' * 4 ≤ 536870912) (hm : new.length = m) (hc : cells + 1 ≤ R.cells) (hs : slots + N' ≤ R.slots) (hlL : wc_lt (w.length + m) L) (hls : wc_lt (w.length + m) st) (hn0 : n0 ≤ w.length + m) (k1 : wc_G l F own cc nL R mc ms n0 ad0 w' (pc + 3) L (.ref (w.length + m) :: st) (wc_K w k o (new ++ [(1, N', [])])) (cells + 1) (slots + N')) : wc_G l F own cc nL R mc ms n0 ad0 w' pc L (.int n :: st) (wc_K w k o new) cells slots := by
  subst hm
  refine wk_newq N' hd hw hn hNn hby hc hs (by rw [wc_K_len]; exact hlL) (by rw [wc_K_len]; exact hls) (by rw [wc_K_len]; exact hn0) ?_
  rw [wc_K_push, wc_K_len]
  exact k1
/-- entry idx of class own names field i of class ci, a final reference of the class's own -/
def wc_FR (own : String) (idx ci i : Nat) : Prop := ∃ (C : String) (T : u_T) (N : Nat) (ty : Nat → FieldType) (t : FieldType), wg_C ci C T N ty ∧ i < N ∧ Cond.fieldLink own idx (T i).1 (T i).2.1 (T i).2.2.1 ∈ wg_T ∧ (T i).2.2.2 = true ∧ (T i).1 = own ∧ parseFieldDescriptor (T i).2.2.1 = some t ∧ ∀ a : Nat, narrow t (.ref a) = .ref a ∧ fits t (.ref a) = true
theorem wk_putRk {idx ci i k j : Nat} {fs : List wc_V} {new : wc_W} (hF : wc_FR own idx ci i) (hd : decode cc pc = .ok (.putfield idx, 3)) (hk : k < w.length) (hfl : i < fs.length) (hj : j < w.length + new.length) (k1 : wc_G l F own cc nL R mc ms n0 ad0 w' (pc + 3) L st (wc_K w k (ci + 2, 0, fs.set i (.inr (some j))) new) cells slots) : wc_G l F own cc nL R mc ms n0 ad0 w' pc L (.ref j :: .ref k :: st) (wc_K w k (ci + 2, 0, fs) new) cells slots := by
  obtain ⟨C, T, N, ty, t, hC, hi, hw, hfin, hdecl, hdt, hnar⟩ := hF
  refine wk_putR hC hd (wc_K_k hk) hi hw hfin hdecl hdt hnar hfl (by rw [wc_K_len]; exact hj) ?_
  rw [wc_K_setk hk]
  exact k1
theorem wk_putIk {idx ci i k : Nat} {v : Int32} {fs : List wc_V} {new : wc_W} (hF : wg_FP own idx ci i .int) (hd : decode cc pc = .ok (.putfield idx, 3)) (hk : k < w.length) (hfl : i < fs.length) (k1 : wc_G l F own cc nL R mc ms n0 ad0 w' (pc + 3) L st (wc_K w k (ci + 2, 0, fs.set i (.inl v)) new) cells slots) : wc_G l F own cc nL R mc ms n0 ad0 w' pc L (.int v :: .ref k :: st) (wc_K w k (ci + 2, 0, fs) new) cells slots := by
  obtain ⟨C, T, N, ty, hC, hi, hw, hp, hfin, hdt⟩ := hF
  refine wk_putI hC hd (wc_K_k hk) hi hw hfin hdt hfl ?_
  rw [wc_K_setk hk]
  exact k1
theorem wk_getF {idx ci i x j t : Nat} {fs : List wc_V} (hF : wg_F own idx ci i t) (hd : decode cc pc = .ok (.getfield idx, 3)) (hg : w[x]? = some (ci + 2, 0, fs)) (hf : fs[i]? = some (.inr (some j))) (k1 : wc_G l F own cc nL R mc ms n0 ad0 w' (pc + 3) L (.ref j :: st) w cells slots) : wc_G l F own cc nL R mc ms n0 ad0 w' pc L (.ref x :: st) w cells slots := by
  obtain ⟨C, T, N, ty, hC, hi, hw, hp⟩ := hF
  exact wk_getR hC hd hg hi hw hf k1
theorem wk_iastK {i k : Nat} {o : wc_X} {new : wc_W} {j v : Int32} {n : Nat} {fs : List wc_V} (hd : decode cc pc = .ok (.iastore, 1)) (hg : new[i]? = some (0, n, fs)) (hj : vp_in j n) (hfs : fs.length = j.toNatClampNeg) (hnr : ∀ q, .inr q ∉ fs) (k1 : wc_G l F own cc nL R mc ms n0 ad0 w' (pc + 1) L st (wc_K w k o (new.set i (0, n, fs ++ [.inl v]))) cells slots) : wc_G l F own cc nL R mc ms n0 ad0 w' pc L (.int v :: .int j :: .ref (w.length + i) :: st) (wc_K w k o new) cells slots := by
  refine wk_iast hd (wc_K_n hg) hj hfs hnr ?_
  rw [wc_K_setn]
  exact k1
theorem wk_astqK {i b k : Nat} {o : wc_X} {new : wc_W} {j : Int32} {n : Nat} {fs vs : List wc_V} (hd : decode cc pc = .ok (.aastore, 1)) (hg : new[i]? = some (1, n, fs)) (hv : new[b]? = some (2, 0, vs)) (hj : vp_in j n) (hfs : fs.length = j.toNatClampNeg) (k1 : wc_G l F own cc nL R mc ms n0 ad0 w' (pc + 1) L st (wc_K w k o (new.set i (1, n, fs ++ [.inr (some (w.length + b))]))) cells slots) : wc_G l F own cc nL R mc ms n0 ad0 w' pc L (.ref (w.length + b) :: .int j :: .ref (w.length + i) :: st) (wc_K w k o new) cells slots := by
  refine wk_astq hd (wc_K_n hg) (wc_K_n hv) hj hfs ?_
  rw [wc_K_setn]
  exact k1
theorem wk_callIK {idx n nL2 mc2 ms2 k : Nat} {o c2 : wc_X} {new nw2 : wc_W} {y : MethodName} {cc2 : ByteArray} {rm2 : Room} (i m : Nat) (As : List Value) (hd : decode cc pc = .ok (.invokespecial idx, 3)) (hm : Cond.methodLink own idx y ∈ wg_T ∧ Cond.instanceMethod y ∈ wg_T) (hy1 : y.name = "<init>") (hY : wg_Y y cc2 nL2 none n) (hm0 : new.length = m) (hM : wc_MG l F y cc2 nL2 rm2 mc2 ms2 (.ref (w.length + i) :: As) (wc_K w k o new) (wc_K (wc_K w k o new) (w.length + i) c2 nw2)) (hn : As.length = n) (st0 : List Value) (hst : st = As.reverse ++ .ref (w.length + i) :: st0) (h8 : st0.length ≤ 8) (hR : rm2.cells = mc2 ∧ rm2.slots = ms2 ∧ rm2.frames + 1 ≤ R.frames ∧ 8 + (nL2 + 11) + rm2.locals ≤ R.locals ∧ cells + mc2 ≤ R.cells ∧ slots + ms2 ≤ R.slots) (hlL : wc_lt (w.length + m) L) (hls : wc_lt (w.length + m) st0) (hn0 : n0 ≤ w.length + m) (k1 : wc_G l F own cc nL R mc ms n0 ad0 w' (pc + 3) L st0 (wc_K w k o (new.set i c2 ++ nw2)) (cells + mc2) (slots + ms2)) : wc_G l F own cc nL R mc ms n0 ad0 w' pc L st (wc_K w k o new) cells slots := by
  subst hm0
  refine wk_callI As hd hm hy1 hY hM hn st0 hst h8 hR (by rw [wc_K_len]; exact hlL) (by rw [wc_K_len]; exact hls) (by rw [wc_K_len]; exact hn0) ?_
  rw [wc_K_call]
  exact k1
theorem wk_callNK {idx n nL2 mc2 ms2 k : Nat} {o c2 : wc_X} {new nw2 : wc_W} {y : MethodName} {cc2 : ByteArray} {rm2 : Room} (i m : Nat) (As : List Value) (hd : decode cc pc = .ok (.invokespecial idx, 3)) (hm : (own, idx, y) ∈ wg_NW ∧ Cond.instanceMethod y ∈ wg_T) (hy1 : y.name = "<init>") (hY : wg_Y y cc2 nL2 none n) (hm0 : new.length = m) (hM : wc_MG l F y cc2 nL2 rm2 mc2 ms2 (.ref (w.length + i) :: As) (wc_K w k o new) (wc_K (wc_K w k o new) (w.length + i) c2 nw2)) (hn : As.length = n) (st0 : List Value) (hst : st = As.reverse ++ .ref (w.length + i) :: st0) (h8 : st0.length ≤ 8) (hR : rm2.cells = mc2 ∧ rm2.slots = ms2 ∧ rm2.frames + 1 ≤ R.frames ∧ 8 + (nL2 + 11) + rm2.locals ≤ R.locals ∧ cells + mc2 ≤ R.cells ∧ slots + ms2 ≤ R.slots) (hlL : wc_lt (w.length + m) L) (hls : wc_lt (w.length + m) st0) (hn0 : n0 ≤ w.length + m) (k1 : wc_G l F own cc nL R mc ms n0 ad0 w' (pc + 3) L st0 (wc_K w k o (new.set i c2 ++ nw2)) (cells + mc2) (slots + ms2)) : wc_G l F own cc nL R mc ms n0 ad0 w' pc L st (wc_K w k o new) cells slots := by
  subst hm0
  refine wk_callN As hd hm hy1 hY hM hn st0 hst h8 hR (by rw [wc_K_len]; exact hlL) (by rw [wc_K_len]; exact hls) (by rw [wc_K_len]; exact hn0) ?_
  rw [wc_K_call]
  exact k1
theorem wc_has_la {ad : Nat → Nat} {ls : Array Slot} {i : Nat} {v : Value} (hi : i = L.length) (h : lv_has ls nL ((i, wc_sh ad v) :: (wc_al ad L).filter (fun q => !(q.1 == i) && !(q.1 + 1 == i && q.2.category == 2)))) : wc_ls ad (L ++ [v]) ls nL := by
  refine ⟨h.1, h.2.1, fun j x hx => ?_⟩
  rw [List.getElem?_append] at hx
  split at hx
  · next hj =>
    refine h.2.2 (j, wc_sh ad x) (List.mem_cons_of_mem _ (List.mem_filter.mpr ⟨wc_al_mem.mpr ⟨x, hx, rfl⟩, ?_⟩))
    have : j ≠ i := by omega
    simp [this, wc_sh_cat]
  · next hj =>
    have hk2 : j - L.length < 1 := (List.getElem?_eq_some_iff.mp hx).1
    rw [show j - L.length = 0 by omega] at hx
    have hxv : v = x := by simpa using hx
    have hji : j = i := by omega
    rw [← hxv, hji]
    exact h.2.2 (i, wc_sh ad v) List.mem_cons_self
theorem wk_istoreA {i : Fin 4} {x : Int32} (hd : decode cc pc = .ok (.istore_n i, 1)) (hn : (i : Nat) < nL) (hi : (i : Nat) = L.length) (k : wc_G l F own cc nL R mc ms n0 ad0 w' (pc + 1) (L ++ [.int x]) st w cells slots) : wc_G l F own cc nL R mc ms n0 ad0 w' pc L (.int x :: st) w cells slots :=
  fun p e s m args below meth c ad H locs ls hx hb hml hr hlk ho hnm hts hK hN hAO hB hin hP hD hS hag hL => lv_istore_n hx hb hd rfl (wc_ls_has hL) hn rfl (fun ls2 hl2 => k p e s m args below meth c ad H locs ls2 hx hb hml hr hlk ho hnm hts hK hN hAO hB hin hP hD hS hag (wc_has_la hi hl2))
def wc_ni (fs : List wc_V) : Bool := fs.all (fun v => match v with | .inl _ => true | .inr _ => false)
theorem wk_iastL {i k : Nat} {o : wc_X} {pre : wc_W} {j v : Int32} {n : Nat} {fs : List wc_V} (hi : pre.length = i) (hd : decode cc pc = .ok (.iastore, 1)) (hj : vp_in j n) (hfs : fs.length = j.toNatClampNeg) (hni : wc_ni fs = true) (k1 : wc_G l F own cc nL R mc ms n0 ad0 w' (pc + 1) L st (wc_K w k o (pre ++ [(0, n, fs ++ [.inl v])])) cells slots) : wc_G l F own cc nL R mc ms n0 ad0 w' pc L (.int v :: .int j :: .ref (w.length + i) :: st) (wc_K w k o (pre ++ [(0, n, fs)])) cells slots := by
  subst hi
  refine wk_iastK hd (n := n) (fs := fs) (by simp) hj hfs (fun q hq => ?_) ?_
  · have := List.all_eq_true.mp hni _ hq
    simp at this
  · have e : (pre ++ [((0, n, fs) : wc_X)]).set pre.length (0, n, fs ++ [.inl v]) = pre ++ [(0, n, fs ++ [.inl v])] := by
      rw [List.set_append_right _ _ (Nat.le_refl _)]
      simp
    rw [e]
    exact k1
theorem wc_last {pre : wc_W} {x : wc_X} {i : Nat} (h : pre.length = i) : (pre ++ [x])[i]? = some x := by subst h; simp
theorem wc_mid {pre y : wc_W} {x : wc_X} {i : Nat} (h : pre.length = i) : ((pre ++ [x]) ++ y)[i]? = some x := by subst h; simp
theorem wk_astqA {i b k : Nat} {o : wc_X} {new new' : wc_W} {j : Int32} {n : Nat} {fs vs : List wc_V} (hd : decode cc pc = .ok (.aastore, 1)) (hg : new[i]? = some (1, n, fs)) (hv : new[b]? = some (2, 0, vs)) (hj : vp_in j n) (hfs : fs.length = j.toNatClampNeg) (hs : new.set i (1, n, fs ++ [.inr (some (w.length + b))]) = new') (k1 : wc_G l F own cc nL R mc ms n0 ad0 w' (pc + 1) L st (wc_K w k o new') cells slots) : wc_G l F own cc nL R mc ms n0 ad0 w' pc L (.ref (w.length + b) :: .int j :: .ref (w.length + i) :: st) (wc_K w k o new) cells slots := by
  subst hs
  exact wk_astqK hd hg hv hj hfs k1
theorem wk_callIL {idx n nL2 mc2 ms2 k : Nat} {o c2 x : wc_X} {pre nw2 : wc_W} {y : MethodName} {cc2 : ByteArray} {rm2 : Room} (i m : Nat) (As : List Value) (hd : decode cc pc = .ok (.invokespecial idx, 3)) (hm : Cond.methodLink own idx y ∈ wg_T ∧ Cond.instanceMethod y ∈ wg_T) (hy1 : y.name = "<init>") (hY : wg_Y y cc2 nL2 none n) (hi : pre.length = i) (hm0 : i + 1 = m) (hM : wc_MG l F y cc2 nL2 rm2 mc2 ms2 (.ref (w.length + i) :: As) (wc_K w k o (pre ++ [x])) (wc_K (wc_K w k o (pre ++ [x])) (w.length + i) c2 nw2)) (hn : As.length = n) (st0 : List Value) (hst : st = As.reverse ++ .ref (w.length + i) :: st0) (h8 : st0.length ≤ 8) (hR : rm2.cells = mc2 ∧ rm2.slots = ms2 ∧ rm2.frames + 1 ≤ R.frames ∧ 8 + (nL2 + 11) + rm2.locals ≤ R.locals ∧ cells + mc2 ≤ R.cells ∧ slots + ms2 ≤ R.slots) (hlL : wc_lt (w.length + m) L) (hls : wc_lt (w.length + m) st0) (hn0 : n0 ≤ w.length + m) (k1 : wc_G l F own cc nL R mc ms n0 ad0 w' (pc + 3) L st0 (wc_K w k o ((pre ++ [c2]) ++ nw2)) (cells + mc2) (slots + ms2)) : wc_G l F own cc nL R mc ms n0 ad0 w' pc L st (wc_K w k o (pre ++ [x])) cells slots := by
  refine wk_callIK i m As hd hm hy1 hY (by rw [List.length_append, hi, List.length_singleton]; exact hm0) hM hn st0 hst h8 hR hlL hls hn0 ?_
  have e : (pre ++ [x]).set i c2 = pre ++ [c2] := by
    subst hi
    rw [List.set_append_right _ _ (Nat.le_refl _)]
    simp
  rw [e]
  exact k1
theorem wk_callNL {idx n nL2 mc2 ms2 k : Nat} {o c2 x : wc_X} {pre nw2 : wc_W} {y : MethodName} {cc2 : ByteArray} {rm2 : Room} (i m : Nat) (As : List Value) (hd : decode cc pc = .ok (.invokespecial idx, 3)) (hm : (own, idx, y) ∈ wg_NW ∧ Cond.instanceMethod y ∈ wg_T) (hy1 : y.name = "<init>") (hY : wg_Y y cc2 nL2 none n) (hi : pre.length = i) (hm0 : i + 1 = m) (hM : wc_MG l F y cc2 nL2 rm2 mc2 ms2 (.ref (w.length + i) :: As) (wc_K w k o (pre ++ [x])) (wc_K (wc_K w k o (pre ++ [x])) (w.length + i) c2 nw2)) (hn : As.length = n) (st0 : List Value) (hst : st = As.reverse ++ .ref (w.length + i) :: st0) (h8 : st0.length ≤ 8) (hR : rm2.cells = mc2 ∧ rm2.slots = ms2 ∧ rm2.frames + 1 ≤ R.frames ∧ 8 + (nL2 + 11) + rm2.locals ≤ R.locals ∧ cells + mc2 ≤ R.cells ∧ slots + ms2 ≤ R.slots) (hlL : wc_lt (w.length + m) L) (hls : wc_lt (w.length + m) st0) (hn0 : n0 ≤ w.length + m) (k1 : wc_G l F own cc nL R mc ms n0 ad0 w' (pc + 3) L st0 (wc_K w k o ((pre ++ [c2]) ++ nw2)) (cells + mc2) (slots + ms2)) : wc_G l F own cc nL R mc ms n0 ad0 w' pc L st (wc_K w k o (pre ++ [x])) cells slots := by
  refine wk_callNK i m As hd hm hy1 hY (by rw [List.length_append, hi, List.length_singleton]; exact hm0) hM hn st0 hst h8 hR hlL hls hn0 ?_
  have e : (pre ++ [x]).set i c2 = pre ++ [c2] := by
    subst hi
    rw [List.set_append_right _ _ (Nat.le_refl _)]
    simp
  rw [e]
  exact k1
end WX
theorem wc_d0 (ad : Nat → Nat) (j : Nat) (h : j < 10) : defaultValue (tyX0 j) = vp_V ((wc_df 0).map (wc_v ad)) j := by
  match j, h with
  | 0, _ => rfl
  | 1, _ => rfl
  | 2, _ => rfl
  | 3, _ => rfl
  | 4, _ => rfl
  | 5, _ => rfl
  | 6, _ => rfl
  | 7, _ => rfl
  | 8, _ => rfl
  | 9, _ => rfl
  | j + 10, h => omega
theorem wc_e0 (j : Nat) : .inr (some j) ∉ wc_df 0 := by simp [wc_df, wg_pt]
theorem wc_d1 (ad : Nat → Nat) (j : Nat) (h : j < 7) : defaultValue (tyX1 j) = vp_V ((wc_df 1).map (wc_v ad)) j := by
  match j, h with
  | 0, _ => rfl
  | 1, _ => rfl
  | 2, _ => rfl
  | 3, _ => rfl
  | 4, _ => rfl
  | 5, _ => rfl
  | 6, _ => rfl
  | j + 7, h => omega
theorem wc_e1 (j : Nat) : .inr (some j) ∉ wc_df 1 := by simp [wc_df, wg_pt]
theorem wc_d2 (ad : Nat → Nat) (j : Nat) (h : j < 6) : defaultValue (tyX2 j) = vp_V ((wc_df 2).map (wc_v ad)) j := by
  match j, h with
  | 0, _ => rfl
  | 1, _ => rfl
  | 2, _ => rfl
  | 3, _ => rfl
  | 4, _ => rfl
  | 5, _ => rfl
  | j + 6, h => omega
theorem wc_e2 (j : Nat) : .inr (some j) ∉ wc_df 2 := by simp [wc_df, wg_pt]
theorem wc_d3 (ad : Nat → Nat) (j : Nat) (h : j < 9) : defaultValue (tyX3 j) = vp_V ((wc_df 3).map (wc_v ad)) j := by
  match j, h with
  | 0, _ => rfl
  | 1, _ => rfl
  | 2, _ => rfl
  | 3, _ => rfl
  | 4, _ => rfl
  | 5, _ => rfl
  | 6, _ => rfl
  | 7, _ => rfl
  | 8, _ => rfl
  | j + 9, h => omega
theorem wc_e3 (j : Nat) : .inr (some j) ∉ wc_df 3 := by simp [wc_df, wg_pt]
theorem wc_d4 (ad : Nat → Nat) (j : Nat) (h : j < 5) : defaultValue (tyX4 j) = vp_V ((wc_df 4).map (wc_v ad)) j := by
  match j, h with
  | 0, _ => rfl
  | 1, _ => rfl
  | 2, _ => rfl
  | 3, _ => rfl
  | 4, _ => rfl
  | j + 5, h => omega
theorem wc_e4 (j : Nat) : .inr (some j) ∉ wc_df 4 := by simp [wc_df, wg_pt]
theorem wc_d5 (ad : Nat → Nat) (j : Nat) (h : j < 3) : defaultValue (tyX5 j) = vp_V ((wc_df 5).map (wc_v ad)) j := by
  match j, h with
  | 0, _ => rfl
  | 1, _ => rfl
  | 2, _ => rfl
  | j + 3, h => omega
theorem wc_e5 (j : Nat) : .inr (some j) ∉ wc_df 5 := by simp [wc_df, wg_pt]
theorem wc_d6 (ad : Nat → Nat) (j : Nat) (h : j < 16) : defaultValue (tyX6 j) = vp_V ((wc_df 6).map (wc_v ad)) j := by
  match j, h with
  | 0, _ => rfl
  | 1, _ => rfl
  | 2, _ => rfl
  | 3, _ => rfl
  | 4, _ => rfl
  | 5, _ => rfl
  | 6, _ => rfl
  | 7, _ => rfl
  | 8, _ => rfl
  | 9, _ => rfl
  | 10, _ => rfl
  | 11, _ => rfl
  | 12, _ => rfl
  | 13, _ => rfl
  | 14, _ => rfl
  | 15, _ => rfl
  | j + 16, h => omega
theorem wc_e6 (j : Nat) : .inr (some j) ∉ wc_df 6 := by simp [wc_df, wg_pt]
theorem wc_d7 (ad : Nat → Nat) (j : Nat) (h : j < 2) : defaultValue (tyX7 j) = vp_V ((wc_df 7).map (wc_v ad)) j := by
  match j, h with
  | 0, _ => rfl
  | 1, _ => rfl
  | j + 2, h => omega
theorem wc_e7 (j : Nat) : .inr (some j) ∉ wc_df 7 := by simp [wc_df, wg_pt]
theorem wc_d8 (ad : Nat → Nat) (j : Nat) (h : j < 12) : defaultValue (tyX8 j) = vp_V ((wc_df 8).map (wc_v ad)) j := by
  match j, h with
  | 0, _ => rfl
  | 1, _ => rfl
  | 2, _ => rfl
  | 3, _ => rfl
  | 4, _ => rfl
  | 5, _ => rfl
  | 6, _ => rfl
  | 7, _ => rfl
  | 8, _ => rfl
  | 9, _ => rfl
  | 10, _ => rfl
  | 11, _ => rfl
  | j + 12, h => omega
theorem wc_e8 (j : Nat) : .inr (some j) ∉ wc_df 8 := by simp [wc_df, wg_pt]
theorem wc_d9 (ad : Nat → Nat) (j : Nat) (h : j < 9) : defaultValue (tyX9 j) = vp_V ((wc_df 9).map (wc_v ad)) j := by
  match j, h with
  | 0, _ => rfl
  | 1, _ => rfl
  | 2, _ => rfl
  | 3, _ => rfl
  | 4, _ => rfl
  | 5, _ => rfl
  | 6, _ => rfl
  | 7, _ => rfl
  | 8, _ => rfl
  | j + 9, h => omega
theorem wc_e9 (j : Nat) : .inr (some j) ∉ wc_df 9 := by simp [wc_df, wg_pt]
theorem wc_d10 (ad : Nat → Nat) (j : Nat) (h : j < 7) : defaultValue (tyX10 j) = vp_V ((wc_df 10).map (wc_v ad)) j := by
  match j, h with
  | 0, _ => rfl
  | 1, _ => rfl
  | 2, _ => rfl
  | 3, _ => rfl
  | 4, _ => rfl
  | 5, _ => rfl
  | 6, _ => rfl
  | j + 7, h => omega
theorem wc_e10 (j : Nat) : .inr (some j) ∉ wc_df 10 := by simp [wc_df, wg_pt]
theorem wc_d11 (ad : Nat → Nat) (j : Nat) (h : j < 7) : defaultValue (tyX11 j) = vp_V ((wc_df 11).map (wc_v ad)) j := by
  match j, h with
  | 0, _ => rfl
  | 1, _ => rfl
  | 2, _ => rfl
  | 3, _ => rfl
  | 4, _ => rfl
  | 5, _ => rfl
  | 6, _ => rfl
  | j + 7, h => omega
theorem wc_e11 (j : Nat) : .inr (some j) ∉ wc_df 11 := by simp [wc_df, wg_pt]
theorem wc_d12 (ad : Nat → Nat) (j : Nat) (h : j < 61) : defaultValue (tyX12 j) = vp_V ((wc_df 12).map (wc_v ad)) j := by
  match j, h with
  | 0, _ => rfl
  | 1, _ => rfl
  | 2, _ => rfl
  | 3, _ => rfl
  | 4, _ => rfl
  | 5, _ => rfl
  | 6, _ => rfl
  | 7, _ => rfl
  | 8, _ => rfl
  | 9, _ => rfl
  | 10, _ => rfl
  | 11, _ => rfl
  | 12, _ => rfl
  | 13, _ => rfl
  | 14, _ => rfl
  | 15, _ => rfl
  | 16, _ => rfl
  | 17, _ => rfl
  | 18, _ => rfl
  | 19, _ => rfl
  | 20, _ => rfl
  | 21, _ => rfl
  | 22, _ => rfl
  | 23, _ => rfl
  | 24, _ => rfl
  | 25, _ => rfl
  | 26, _ => rfl
  | 27, _ => rfl
  | 28, _ => rfl
  | 29, _ => rfl
  | 30, _ => rfl
  | 31, _ => rfl
  | 32, _ => rfl
  | 33, _ => rfl
  | 34, _ => rfl
  | 35, _ => rfl
  | 36, _ => rfl
  | 37, _ => rfl
  | 38, _ => rfl
  | 39, _ => rfl
  | 40, _ => rfl
  | 41, _ => rfl
  | 42, _ => rfl
  | 43, _ => rfl
  | 44, _ => rfl
  | 45, _ => rfl
  | 46, _ => rfl
  | 47, _ => rfl
  | 48, _ => rfl
  | 49, _ => rfl
  | 50, _ => rfl
  | 51, _ => rfl
  | 52, _ => rfl
  | 53, _ => rfl
  | 54, _ => rfl
  | 55, _ => rfl
  | 56, _ => rfl
  | 57, _ => rfl
  | 58, _ => rfl
  | 59, _ => rfl
  | 60, _ => rfl
  | j + 61, h => omega
theorem wc_e12 (j : Nat) : .inr (some j) ∉ wc_df 12 := by simp [wc_df, wg_pt]
theorem wcf_X9_9 : wc_FR "WornWigs$Wigs" 9 9 0 := ⟨RX9, TX9, 9, tyX9, (.array .int), wc_9, by decide, wq_1_48, rfl, rfl, rfl, fun a => ⟨rfl, rfl⟩⟩
theorem wcf_X9_15 : wc_FR "WornWigs$Wigs" 15 9 1 := ⟨RX9, TX9, 9, tyX9, (.array .int), wc_9, by decide, wq_1_52, rfl, rfl, rfl, fun a => ⟨rfl, rfl⟩⟩
theorem wcf_X9_18 : wc_FR "WornWigs$Wigs" 18 9 2 := ⟨RX9, TX9, 9, tyX9, (.array .int), wc_9, by decide, wq_1_56, rfl, rfl, rfl, fun a => ⟨rfl, rfl⟩⟩
theorem wcf_X9_21 : wc_FR "WornWigs$Wigs" 21 9 3 := ⟨RX9, TX9, 9, tyX9, (.array .int), wc_9, by decide, wq_1_59, rfl, rfl, rfl, fun a => ⟨rfl, rfl⟩⟩
theorem wcf_X9_24 : wc_FR "WornWigs$Wigs" 24 9 4 := ⟨RX9, TX9, 9, tyX9, (.array .int), wc_9, by decide, wq_1_63, rfl, rfl, rfl, fun a => ⟨rfl, rfl⟩⟩
theorem wcf_X9_27 : wc_FR "WornWigs$Wigs" 27 9 5 := ⟨RX9, TX9, 9, tyX9, (.array .int), wc_9, by decide, wq_1_67, rfl, rfl, rfl, fun a => ⟨rfl, rfl⟩⟩
theorem wcf_X9_30 : wc_FR "WornWigs$Wigs" 30 9 6 := ⟨RX9, TX9, 9, tyX9, (.array .int), wc_9, by decide, wq_1_70, rfl, rfl, rfl, fun a => ⟨rfl, rfl⟩⟩
theorem wcf_X9_33 : wc_FR "WornWigs$Wigs" 33 9 7 := ⟨RX9, TX9, 9, tyX9, (.array .int), wc_9, by decide, wq_1_73, rfl, rfl, rfl, fun a => ⟨rfl, rfl⟩⟩
theorem wcf_X2_9 : wc_FR "WornWigs$Judges" 9 2 0 := ⟨RX2, TX2, 6, tyX2, (.array .int), wc_2, by decide, wq_1_108, rfl, rfl, rfl, fun a => ⟨rfl, rfl⟩⟩
theorem wcf_X2_15 : wc_FR "WornWigs$Judges" 15 2 1 := ⟨RX2, TX2, 6, tyX2, (.array .int), wc_2, by decide, wq_1_111, rfl, rfl, rfl, fun a => ⟨rfl, rfl⟩⟩
theorem wcf_X2_18 : wc_FR "WornWigs$Judges" 18 2 2 := ⟨RX2, TX2, 6, tyX2, (.array .int), wc_2, by decide, wq_1_114, rfl, rfl, rfl, fun a => ⟨rfl, rfl⟩⟩
theorem wcf_X2_21 : wc_FR "WornWigs$Judges" 21 2 3 := ⟨RX2, TX2, 6, tyX2, (.array .int), wc_2, by decide, wq_1_117, rfl, rfl, rfl, fun a => ⟨rfl, rfl⟩⟩
theorem wcf_X2_24 : wc_FR "WornWigs$Judges" 24 2 4 := ⟨RX2, TX2, 6, tyX2, (.array .int), wc_2, by decide, wq_1_120, rfl, rfl, rfl, fun a => ⟨rfl, rfl⟩⟩
theorem wcf_X0_12 : wc_FR "WornWigs$Bench" 12 0 0 := ⟨RX0, TX0, 10, tyX0, (.object "WornWigs$Wigs"), wc_0, by decide, wq_1_141, rfl, rfl, rfl, fun a => ⟨rfl, rfl⟩⟩
theorem wcf_X0_21 : wc_FR "WornWigs$Bench" 21 0 1 := ⟨RX0, TX0, 10, tyX0, (.object "WornWigs$Judges"), wc_0, by decide, wq_1_146, rfl, rfl, rfl, fun a => ⟨rfl, rfl⟩⟩
theorem wcf_X0_25 : wc_FR "WornWigs$Bench" 25 0 2 := ⟨RX0, TX0, 10, tyX0, (.array .int), wc_0, by decide, wq_1_151, rfl, rfl, rfl, fun a => ⟨rfl, rfl⟩⟩
theorem wcf_X0_29 : wc_FR "WornWigs$Bench" 29 0 3 := ⟨RX0, TX0, 10, tyX0, (.array .int), wc_0, by decide, wq_1_154, rfl, rfl, rfl, fun a => ⟨rfl, rfl⟩⟩
theorem wcf_X0_32 : wc_FR "WornWigs$Bench" 32 0 4 := ⟨RX0, TX0, 10, tyX0, (.array .int), wc_0, by decide, wq_1_157, rfl, rfl, rfl, fun a => ⟨rfl, rfl⟩⟩
theorem wcf_X0_35 : wc_FR "WornWigs$Bench" 35 0 5 := ⟨RX0, TX0, 10, tyX0, (.array .int), wc_0, by decide, wq_1_160, rfl, rfl, rfl, fun a => ⟨rfl, rfl⟩⟩
theorem wcf_X4_13 : wc_FR "WornWigs$Lines" 13 4 0 := ⟨RX4, TX4, 5, tyX4, (.array .int), wc_4, by decide, wq_1_204, rfl, rfl, rfl, fun a => ⟨rfl, rfl⟩⟩
theorem wcf_X4_19 : wc_FR "WornWigs$Lines" 19 4 1 := ⟨RX4, TX4, 5, tyX4, (.array .int), wc_4, by decide, wq_1_207, rfl, rfl, rfl, fun a => ⟨rfl, rfl⟩⟩
theorem wcf_X4_22 : wc_FR "WornWigs$Lines" 22 4 2 := ⟨RX4, TX4, 5, tyX4, (.array .int), wc_4, by decide, wq_1_210, rfl, rfl, rfl, fun a => ⟨rfl, rfl⟩⟩
theorem wcf_X4_25 : wc_FR "WornWigs$Lines" 25 4 3 := ⟨RX4, TX4, 5, tyX4, (.array .int), wc_4, by decide, wq_1_214, rfl, rfl, rfl, fun a => ⟨rfl, rfl⟩⟩
theorem wcf_X3_9 : wc_FR "WornWigs$Law" 9 3 0 := ⟨RX3, TX3, 9, tyX3, (.array .int), wc_3, by decide, wq_2_0, rfl, rfl, rfl, fun a => ⟨rfl, rfl⟩⟩
theorem wcf_X3_15 : wc_FR "WornWigs$Law" 15 3 1 := ⟨RX3, TX3, 9, tyX3, (.array .int), wc_3, by decide, wq_2_1, rfl, rfl, rfl, fun a => ⟨rfl, rfl⟩⟩
theorem wcf_X3_18 : wc_FR "WornWigs$Law" 18 3 3 := ⟨RX3, TX3, 9, tyX3, (.array .int), wc_3, by decide, wq_2_4, rfl, rfl, rfl, fun a => ⟨rfl, rfl⟩⟩
theorem wcf_X3_21 : wc_FR "WornWigs$Law" 21 3 4 := ⟨RX3, TX3, 9, tyX3, (.array .int), wc_3, by decide, wq_2_6, rfl, rfl, rfl, fun a => ⟨rfl, rfl⟩⟩
theorem wcf_X3_24 : wc_FR "WornWigs$Law" 24 3 5 := ⟨RX3, TX3, 9, tyX3, (.array .int), wc_3, by decide, wq_2_8, rfl, rfl, rfl, fun a => ⟨rfl, rfl⟩⟩
theorem wcf_X3_27 : wc_FR "WornWigs$Law" 27 3 7 := ⟨RX3, TX3, 9, tyX3, (.array .int), wc_3, by decide, wq_2_13, rfl, rfl, rfl, fun a => ⟨rfl, rfl⟩⟩
theorem wcf_X3_30 : wc_FR "WornWigs$Law" 30 3 8 := ⟨RX3, TX3, 9, tyX3, (.array .int), wc_3, by decide, wq_2_15, rfl, rfl, rfl, fun a => ⟨rfl, rfl⟩⟩
theorem wcf_X8_9 : wc_FR "WornWigs$Told" 9 8 0 := ⟨RX8, TX8, 12, tyX8, (.array .int), wc_8, by decide, wq_2_41, rfl, rfl, rfl, fun a => ⟨rfl, rfl⟩⟩
theorem wcf_X8_15 : wc_FR "WornWigs$Told" 15 8 1 := ⟨RX8, TX8, 12, tyX8, (.array .int), wc_8, by decide, wq_2_43, rfl, rfl, rfl, fun a => ⟨rfl, rfl⟩⟩
theorem wcf_X8_18 : wc_FR "WornWigs$Told" 18 8 2 := ⟨RX8, TX8, 12, tyX8, (.array .int), wc_8, by decide, wq_2_45, rfl, rfl, rfl, fun a => ⟨rfl, rfl⟩⟩
theorem wcf_X8_21 : wc_FR "WornWigs$Told" 21 8 4 := ⟨RX8, TX8, 12, tyX8, (.array .int), wc_8, by decide, wq_2_50, rfl, rfl, rfl, fun a => ⟨rfl, rfl⟩⟩
theorem wcf_X8_24 : wc_FR "WornWigs$Told" 24 8 5 := ⟨RX8, TX8, 12, tyX8, (.array .int), wc_8, by decide, wq_2_51, rfl, rfl, rfl, fun a => ⟨rfl, rfl⟩⟩
theorem wcf_X8_27 : wc_FR "WornWigs$Told" 27 8 7 := ⟨RX8, TX8, 12, tyX8, (.array .int), wc_8, by decide, wq_2_54, rfl, rfl, rfl, fun a => ⟨rfl, rfl⟩⟩
theorem wcf_X8_30 : wc_FR "WornWigs$Told" 30 8 8 := ⟨RX8, TX8, 12, tyX8, (.array .int), wc_8, by decide, wq_2_56, rfl, rfl, rfl, fun a => ⟨rfl, rfl⟩⟩
theorem wcf_X8_33 : wc_FR "WornWigs$Told" 33 8 9 := ⟨RX8, TX8, 12, tyX8, (.array .int), wc_8, by decide, wq_2_57, rfl, rfl, rfl, fun a => ⟨rfl, rfl⟩⟩
theorem wcf_X8_36 : wc_FR "WornWigs$Told" 36 8 11 := ⟨RX8, TX8, 12, tyX8, (.array .int), wc_8, by decide, wq_2_60, rfl, rfl, rfl, fun a => ⟨rfl, rfl⟩⟩
theorem wcf_X10_12 : wc_FR "WornWigs$World" 12 10 0 := ⟨RX10, TX10, 7, tyX10, (.object "WornWigs$Bench"), wc_10, by decide, wq_2_86, rfl, rfl, rfl, fun a => ⟨rfl, rfl⟩⟩
theorem wcf_X10_23 : wc_FR "WornWigs$World" 23 10 1 := ⟨RX10, TX10, 7, tyX10, (.object "WornWigs$Lines"), wc_10, by decide, wq_2_91, rfl, rfl, rfl, fun a => ⟨rfl, rfl⟩⟩
theorem wcf_X10_30 : wc_FR "WornWigs$World" 30 10 2 := ⟨RX10, TX10, 7, tyX10, (.object "WornWigs$Law"), wc_10, by decide, wq_2_94, rfl, rfl, rfl, fun a => ⟨rfl, rfl⟩⟩
theorem wcf_X10_34 : wc_FR "WornWigs$World" 34 10 3 := ⟨RX10, TX10, 7, tyX10, (.object "WornWigs$Lines"), wc_10, by decide, wq_2_98, rfl, rfl, rfl, fun a => ⟨rfl, rfl⟩⟩
theorem wcf_X10_37 : wc_FR "WornWigs$World" 37 10 4 := ⟨RX10, TX10, 7, tyX10, (.object "WornWigs$Lines"), wc_10, by decide, wq_2_102, rfl, rfl, rfl, fun a => ⟨rfl, rfl⟩⟩
theorem wcf_X10_40 : wc_FR "WornWigs$World" 40 10 5 := ⟨RX10, TX10, 7, tyX10, (.object "WornWigs$Lines"), wc_10, by decide, wq_2_106, rfl, rfl, rfl, fun a => ⟨rfl, rfl⟩⟩
theorem wcf_X10_46 : wc_FR "WornWigs$World" 46 10 6 := ⟨RX10, TX10, 7, tyX10, (.object "WornWigs$Told"), wc_10, by decide, wq_2_110, rfl, rfl, rfl, fun a => ⟨rfl, rfl⟩⟩
theorem wcf_X5_11 : wc_FR "WornWigs$Past" 11 5 0 := ⟨RX5, TX5, 3, tyX5, (.array (.object "WornWigs$Bench")), wc_5, by decide, wq_2_137, rfl, rfl, rfl, fun a => ⟨rfl, rfl⟩⟩
theorem wcf_X6_9 : wc_FR "WornWigs$Reader" 9 6 1 := ⟨RX6, TX6, 16, tyX6, (.array .int), wc_6, by decide, wq_2_159, rfl, rfl, rfl, fun a => ⟨rfl, rfl⟩⟩
theorem wcf_X6_15 : wc_FR "WornWigs$Reader" 15 6 3 := ⟨RX6, TX6, 16, tyX6, (.array .int), wc_6, by decide, wq_2_162, rfl, rfl, rfl, fun a => ⟨rfl, rfl⟩⟩
theorem wcf_X6_18 : wc_FR "WornWigs$Reader" 18 6 4 := ⟨RX6, TX6, 16, tyX6, (.array .int), wc_6, by decide, wq_2_163, rfl, rfl, rfl, fun a => ⟨rfl, rfl⟩⟩
theorem wcf_X6_21 : wc_FR "WornWigs$Reader" 21 6 5 := ⟨RX6, TX6, 16, tyX6, (.array .int), wc_6, by decide, wq_2_164, rfl, rfl, rfl, fun a => ⟨rfl, rfl⟩⟩
theorem wcf_X6_31 : wc_FR "WornWigs$Reader" 31 6 10 := ⟨RX6, TX6, 16, tyX6, (.object "WornWigs$Law"), wc_6, by decide, wq_2_171, rfl, rfl, rfl, fun a => ⟨rfl, rfl⟩⟩
theorem wcf_X6_40 : wc_FR "WornWigs$Reader" 40 6 11 := ⟨RX6, TX6, 16, tyX6, (.object "WornWigs$Lines"), wc_6, by decide, wq_2_172, rfl, rfl, rfl, fun a => ⟨rfl, rfl⟩⟩
theorem wcf_X6_44 : wc_FR "WornWigs$Reader" 44 6 12 := ⟨RX6, TX6, 16, tyX6, (.array .int), wc_6, by decide, wq_2_174, rfl, rfl, rfl, fun a => ⟨rfl, rfl⟩⟩
theorem wcf_X6_47 : wc_FR "WornWigs$Reader" 47 6 0 := ⟨RX6, TX6, 16, tyX6, (.object "WornWigs$World"), wc_6, by decide, wq_2_158, rfl, rfl, rfl, fun a => ⟨rfl, rfl⟩⟩
theorem wcf_X1_12 : wc_FR "WornWigs$Court" 12 1 5 := ⟨RX1, TX1, 7, tyX1, (.object "WornWigs$Bench"), wc_1, by decide, wq_2_224, rfl, rfl, rfl, fun a => ⟨rfl, rfl⟩⟩
theorem wcf_X1_18 : wc_FR "WornWigs$Court" 18 1 0 := ⟨RX1, TX1, 7, tyX1, (.object "WornWigs$World"), wc_1, by decide, wq_2_219, rfl, rfl, rfl, fun a => ⟨rfl, rfl⟩⟩
theorem wcf_X1_27 : wc_FR "WornWigs$Court" 27 1 1 := ⟨RX1, TX1, 7, tyX1, (.object "WornWigs$Bench"), wc_1, by decide, wq_2_220, rfl, rfl, rfl, fun a => ⟨rfl, rfl⟩⟩
theorem wcf_X1_32 : wc_FR "WornWigs$Court" 32 1 2 := ⟨RX1, TX1, 7, tyX1, (.object "WornWigs$Wigs"), wc_1, by decide, wq_2_221, rfl, rfl, rfl, fun a => ⟨rfl, rfl⟩⟩
theorem wcf_X1_37 : wc_FR "WornWigs$Court" 37 1 3 := ⟨RX1, TX1, 7, tyX1, (.object "WornWigs$Judges"), wc_1, by decide, wq_2_222, rfl, rfl, rfl, fun a => ⟨rfl, rfl⟩⟩
theorem wcf_X1_42 : wc_FR "WornWigs$Court" 42 1 4 := ⟨RX1, TX1, 7, tyX1, (.object "WornWigs$Law"), wc_1, by decide, wq_2_223, rfl, rfl, rfl, fun a => ⟨rfl, rfl⟩⟩
theorem wcf_X7_9 : wc_FR "WornWigs$Thought" 9 7 0 := ⟨RX7, TX7, 2, tyX7, (.object "WornWigs$World"), wc_7, by decide, wq_3_7, rfl, rfl, rfl, fun a => ⟨rfl, rfl⟩⟩
theorem wcf_X7_15 : wc_FR "WornWigs$Thought" 15 7 1 := ⟨RX7, TX7, 2, tyX7, (.object "WornWigs$Court"), wc_7, by decide, wq_3_8, rfl, rfl, rfl, fun a => ⟨rfl, rfl⟩⟩
theorem wcf_X11_12 : wc_FR "WornWigs" 12 11 0 := ⟨RX11, TX11, 7, tyX11, (.object "WornWigs$World"), wc_11, by decide, wq_3_14, rfl, rfl, rfl, fun a => ⟨rfl, rfl⟩⟩
theorem wcf_X11_16 : wc_FR "WornWigs" 16 11 1 := ⟨RX11, TX11, 7, tyX11, (.object "WornWigs$World"), wc_11, by decide, wq_3_15, rfl, rfl, rfl, fun a => ⟨rfl, rfl⟩⟩
theorem wcf_X11_22 : wc_FR "WornWigs" 22 11 2 := ⟨RX11, TX11, 7, tyX11, (.object "WornWigs$Past"), wc_11, by decide, wq_3_16, rfl, rfl, rfl, fun a => ⟨rfl, rfl⟩⟩
theorem wcf_X11_31 : wc_FR "WornWigs" 31 11 3 := ⟨RX11, TX11, 7, tyX11, (.object "WornWigs$Reader"), wc_11, by decide, wq_3_17, rfl, rfl, rfl, fun a => ⟨rfl, rfl⟩⟩
theorem wcf_X11_38 : wc_FR "WornWigs" 38 11 4 := ⟨RX11, TX11, 7, tyX11, (.object "WornWigs$Court"), wc_11, by decide, wq_3_18, rfl, rfl, rfl, fun a => ⟨rfl, rfl⟩⟩
theorem wcf_X11_47 : wc_FR "WornWigs" 47 11 5 := ⟨RX11, TX11, 7, tyX11, (.object "WornWigs$Thought"), wc_11, by decide, wq_3_19, rfl, rfl, rfl, fun a => ⟨rfl, rfl⟩⟩
theorem wcf_X12_7 : wc_FR "WornWigsModel" 7 12 1 := ⟨RX12, TX12, 61, tyX12, (.array .int), wc_12, by decide, wq_6_127, rfl, rfl, rfl, fun a => ⟨rfl, rfl⟩⟩
theorem wcf_X12_13 : wc_FR "WornWigsModel" 13 12 2 := ⟨RX12, TX12, 61, tyX12, (.array .int), wc_12, by decide, wq_6_128, rfl, rfl, rfl, fun a => ⟨rfl, rfl⟩⟩
theorem wcf_X12_16 : wc_FR "WornWigsModel" 16 12 4 := ⟨RX12, TX12, 61, tyX12, (.array .int), wc_12, by decide, wq_6_130, rfl, rfl, rfl, fun a => ⟨rfl, rfl⟩⟩
theorem wcf_X12_19 : wc_FR "WornWigsModel" 19 12 9 := ⟨RX12, TX12, 61, tyX12, (.array .int), wc_12, by decide, wq_6_135, rfl, rfl, rfl, fun a => ⟨rfl, rfl⟩⟩
theorem wcf_X12_22 : wc_FR "WornWigsModel" 22 12 10 := ⟨RX12, TX12, 61, tyX12, (.array .int), wc_12, by decide, wq_6_136, rfl, rfl, rfl, fun a => ⟨rfl, rfl⟩⟩
theorem wcf_X12_25 : wc_FR "WornWigsModel" 25 12 11 := ⟨RX12, TX12, 61, tyX12, (.array .int), wc_12, by decide, wq_6_137, rfl, rfl, rfl, fun a => ⟨rfl, rfl⟩⟩
theorem wcf_X12_28 : wc_FR "WornWigsModel" 28 12 12 := ⟨RX12, TX12, 61, tyX12, (.array .int), wc_12, by decide, wq_6_138, rfl, rfl, rfl, fun a => ⟨rfl, rfl⟩⟩
theorem wcf_X12_31 : wc_FR "WornWigsModel" 31 12 13 := ⟨RX12, TX12, 61, tyX12, (.array .int), wc_12, by decide, wq_6_139, rfl, rfl, rfl, fun a => ⟨rfl, rfl⟩⟩
theorem wcf_X12_34 : wc_FR "WornWigsModel" 34 12 14 := ⟨RX12, TX12, 61, tyX12, (.array .int), wc_12, by decide, wq_6_140, rfl, rfl, rfl, fun a => ⟨rfl, rfl⟩⟩
theorem wcf_X12_37 : wc_FR "WornWigsModel" 37 12 20 := ⟨RX12, TX12, 61, tyX12, (.array .int), wc_12, by decide, wq_6_146, rfl, rfl, rfl, fun a => ⟨rfl, rfl⟩⟩
theorem wcf_X12_40 : wc_FR "WornWigsModel" 40 12 21 := ⟨RX12, TX12, 61, tyX12, (.array .int), wc_12, by decide, wq_6_147, rfl, rfl, rfl, fun a => ⟨rfl, rfl⟩⟩
theorem wcf_X12_43 : wc_FR "WornWigsModel" 43 12 22 := ⟨RX12, TX12, 61, tyX12, (.array .int), wc_12, by decide, wq_6_148, rfl, rfl, rfl, fun a => ⟨rfl, rfl⟩⟩
theorem wcf_X12_46 : wc_FR "WornWigsModel" 46 12 23 := ⟨RX12, TX12, 61, tyX12, (.array .int), wc_12, by decide, wq_6_149, rfl, rfl, rfl, fun a => ⟨rfl, rfl⟩⟩
theorem wcf_X12_49 : wc_FR "WornWigsModel" 49 12 24 := ⟨RX12, TX12, 61, tyX12, (.array .int), wc_12, by decide, wq_6_150, rfl, rfl, rfl, fun a => ⟨rfl, rfl⟩⟩
theorem wcf_X12_52 : wc_FR "WornWigsModel" 52 12 25 := ⟨RX12, TX12, 61, tyX12, (.array .int), wc_12, by decide, wq_6_151, rfl, rfl, rfl, fun a => ⟨rfl, rfl⟩⟩
theorem wcf_X12_55 : wc_FR "WornWigsModel" 55 12 26 := ⟨RX12, TX12, 61, tyX12, (.array .int), wc_12, by decide, wq_6_152, rfl, rfl, rfl, fun a => ⟨rfl, rfl⟩⟩
theorem wcf_X12_58 : wc_FR "WornWigsModel" 58 12 27 := ⟨RX12, TX12, 61, tyX12, (.array .int), wc_12, by decide, wq_6_153, rfl, rfl, rfl, fun a => ⟨rfl, rfl⟩⟩
theorem wcf_X12_61 : wc_FR "WornWigsModel" 61 12 31 := ⟨RX12, TX12, 61, tyX12, (.array .int), wc_12, by decide, wq_6_157, rfl, rfl, rfl, fun a => ⟨rfl, rfl⟩⟩
theorem wcf_X12_68 : wc_FR "WornWigsModel" 68 12 38 := ⟨RX12, TX12, 61, tyX12, (.array .int), wc_12, by decide, wq_6_164, rfl, rfl, rfl, fun a => ⟨rfl, rfl⟩⟩
theorem wcf_X12_71 : wc_FR "WornWigsModel" 71 12 40 := ⟨RX12, TX12, 61, tyX12, (.array .int), wc_12, by decide, wq_6_166, rfl, rfl, rfl, fun a => ⟨rfl, rfl⟩⟩
theorem wcf_X12_74 : wc_FR "WornWigsModel" 74 12 42 := ⟨RX12, TX12, 61, tyX12, (.array .int), wc_12, by decide, wq_6_168, rfl, rfl, rfl, fun a => ⟨rfl, rfl⟩⟩
theorem wcf_X12_77 : wc_FR "WornWigsModel" 77 12 43 := ⟨RX12, TX12, 61, tyX12, (.array .int), wc_12, by decide, wq_6_169, rfl, rfl, rfl, fun a => ⟨rfl, rfl⟩⟩
theorem wcf_X12_80 : wc_FR "WornWigsModel" 80 12 44 := ⟨RX12, TX12, 61, tyX12, (.array .int), wc_12, by decide, wq_6_170, rfl, rfl, rfl, fun a => ⟨rfl, rfl⟩⟩
theorem wcf_X12_83 : wc_FR "WornWigsModel" 83 12 46 := ⟨RX12, TX12, 61, tyX12, (.array .int), wc_12, by decide, wq_6_172, rfl, rfl, rfl, fun a => ⟨rfl, rfl⟩⟩
theorem wcf_X12_86 : wc_FR "WornWigsModel" 86 12 47 := ⟨RX12, TX12, 61, tyX12, (.array .int), wc_12, by decide, wq_6_173, rfl, rfl, rfl, fun a => ⟨rfl, rfl⟩⟩
theorem wcf_X12_89 : wc_FR "WornWigsModel" 89 12 48 := ⟨RX12, TX12, 61, tyX12, (.array .int), wc_12, by decide, wq_6_174, rfl, rfl, rfl, fun a => ⟨rfl, rfl⟩⟩
theorem wcf_X12_92 : wc_FR "WornWigsModel" 92 12 50 := ⟨RX12, TX12, 61, tyX12, (.array .int), wc_12, by decide, wq_6_176, rfl, rfl, rfl, fun a => ⟨rfl, rfl⟩⟩
theorem wcf_X12_95 : wc_FR "WornWigsModel" 95 12 51 := ⟨RX12, TX12, 61, tyX12, (.array .int), wc_12, by decide, wq_6_177, rfl, rfl, rfl, fun a => ⟨rfl, rfl⟩⟩
theorem wcf_X12_98 : wc_FR "WornWigsModel" 98 12 52 := ⟨RX12, TX12, 61, tyX12, (.array .int), wc_12, by decide, wq_6_178, rfl, rfl, rfl, fun a => ⟨rfl, rfl⟩⟩
theorem wcf_X12_101 : wc_FR "WornWigsModel" 101 12 54 := ⟨RX12, TX12, 61, tyX12, (.array .int), wc_12, by decide, wq_6_180, rfl, rfl, rfl, fun a => ⟨rfl, rfl⟩⟩
theorem wcf_X12_104 : wc_FR "WornWigsModel" 104 12 55 := ⟨RX12, TX12, 61, tyX12, (.array .int), wc_12, by decide, wq_6_181, rfl, rfl, rfl, fun a => ⟨rfl, rfl⟩⟩
theorem wcf_X12_107 : wc_FR "WornWigsModel" 107 12 56 := ⟨RX12, TX12, 61, tyX12, (.array .int), wc_12, by decide, wq_6_182, rfl, rfl, rfl, fun a => ⟨rfl, rfl⟩⟩
theorem wcf_X12_110 : wc_FR "WornWigsModel" 110 12 60 := ⟨RX12, TX12, 61, tyX12, (.array .int), wc_12, by decide, wq_6_186, rfl, rfl, rfl, fun a => ⟨rfl, rfl⟩⟩
def ob_9 (b : Nat) : wc_X := (11, 0, (((((((((wc_df 9).set 0 (.inr (some (b + 0)))).set 1 (.inr (some (b + 1)))).set 2 (.inr (some (b + 2)))).set 3 (.inr (some (b + 3)))).set 4 (.inr (some (b + 4)))).set 5 (.inr (some (b + 5)))).set 6 (.inr (some (b + 6)))).set 7 (.inr (some (b + 7)))))
def nw_9 (b : Nat) : wc_W := (((((((([] ++ [(0, 8, [])]) ++ [(0, 8, [])]) ++ [(0, 8, [])]) ++ [(0, 8, [])]) ++ [(0, 8, [])]) ++ [(0, 64, [])]) ++ [(0, 64, [])]) ++ [(0, 64, [])])
theorem nl_9 {b : Nat} : (nw_9 b).length = 8 := by simp only [nw_9, List.length_append, List.length_cons, List.length_nil, Nat.reduceAdd]
abbrev rm_X9_init : Room := { frames := 1, cells := 8, slots := 232, locals := 12 }
def tb_X9_init : List (Nat × Instr × Nat) := [(0, .aload_n 0, 1), (1, .invokespecial 3, 3), (4, .aload_n 0, 1), (5, .bipush 8, 2), (7, .newarray .int, 2), (9, .putfield 9, 3), (12, .aload_n 0, 1), (13, .bipush 8, 2), (15, .newarray .int, 2), (17, .putfield 15, 3), (20, .aload_n 0, 1), (21, .bipush 8, 2), (23, .newarray .int, 2), (25, .putfield 18, 3), (28, .aload_n 0, 1), (29, .bipush 8, 2), (31, .newarray .int, 2), (33, .putfield 21, 3), (36, .aload_n 0, 1), (37, .bipush 8, 2), (39, .newarray .int, 2), (41, .putfield 24, 3), (44, .aload_n 0, 1), (45, .bipush 64, 2), (47, .newarray .int, 2), (49, .putfield 27, 3), (52, .aload_n 0, 1), (53, .bipush 64, 2), (55, .newarray .int, 2), (57, .putfield 30, 3), (60, .aload_n 0, 1), (61, .bipush 64, 2), (63, .newarray .int, 2), (65, .putfield 33, 3), (68, .return_, 1)]
theorem dt_X9_init : wg_dc cX9_init tb_X9_init := by unfold wg_dc; decide +kernel
set_option maxHeartbeats 40000000 in
set_option maxRecDepth 40000 in
theorem ct_9 (l : Launch) (F : wc_F) (w : wc_W) (k : Nat) (hw : w[k]? = some (11, 0, wc_df 9)) (b : Nat) (hb : w.length = b) : wc_MG l F yX9_init cX9_init 1 rm_X9_init 8 232 [.ref k] w (wc_K w k (ob_9 b) (nw_9 b)) := by
  subst hb
  have hk : k < w.length := (List.getElem?_eq_some_iff.mp hw).1
  refine wc_met [.ref k] (by decide) rfl (Nat.le_of_ble_eq_true rfl) (fun ad0 => ?_)
  have e0 : w = wc_K w k (11, 0, wc_df 9) [] := by
    apply List.ext_getElem?
    intro j
    rw [wc_K, List.append_nil, List.getElem?_set]
    split
    · next h => subst h; first | (rw [if_pos hk]; exact hw) | exact hw
    · rfl
  suffices h9 : wc_G l F "WornWigs$Wigs" cX9_init 1 rm_X9_init 8 232 w.length ad0 (wc_K w k (ob_9 w.length) (nw_9 w.length)) 0 [.ref k] [] (wc_K w k (11, 0, wc_df 9) []) 0 0 by
    rw [← e0] at h9; exact h9
  refine wk_aload_n (wg_da dt_X9_init 0 rfl) rfl ?_
  refine wk_obj (wg_da dt_X9_init 1 rfl) ⟨wq_1_47, wq_1_28, wq_1_29⟩ (by decide) (by decide) ?_
  refine wk_aload_n (wg_da dt_X9_init 2 rfl) rfl ?_
  refine wk_bipush (8 : Int32) (wg_da dt_X9_init 3 rfl) (by decide) ?_
  refine wk_newaK 8 0 (wg_da dt_X9_init 4 rfl) wq_arr (by decide) (by decide) (by decide) (by simp only [List.length_append, List.length_cons, List.length_nil, Nat.reduceAdd, Nat.reduceLT]) (by decide) (by decide) (And.intro (Nat.lt_add_right _ hk) trivial) (And.intro (Nat.lt_add_right _ hk) trivial) (Nat.le_add_right _ _) ?_
  refine wk_putRk wcf_X9_9 (wg_da dt_X9_init 5 rfl) hk (Nat.le_of_ble_eq_true rfl) (Nat.add_lt_add_left (by simp only [List.length_append, List.length_cons, List.length_nil, Nat.reduceAdd, Nat.reduceLT]) _) ?_
  refine wk_aload_n (wg_da dt_X9_init 6 rfl) rfl ?_
  refine wk_bipush (8 : Int32) (wg_da dt_X9_init 7 rfl) (by decide) ?_
  refine wk_newaK 8 1 (wg_da dt_X9_init 8 rfl) wq_arr (by decide) (by decide) (by decide) (by simp only [List.length_append, List.length_cons, List.length_nil, Nat.reduceAdd, Nat.reduceLT]) (by decide) (by decide) (And.intro (Nat.lt_add_right _ hk) trivial) (And.intro (Nat.lt_add_right _ hk) trivial) (Nat.le_add_right _ _) ?_
  refine wk_putRk wcf_X9_15 (wg_da dt_X9_init 9 rfl) hk (Nat.le_of_ble_eq_true rfl) (Nat.add_lt_add_left (by simp only [List.length_append, List.length_cons, List.length_nil, Nat.reduceAdd, Nat.reduceLT]) _) ?_
  refine wk_aload_n (wg_da dt_X9_init 10 rfl) rfl ?_
  refine wk_bipush (8 : Int32) (wg_da dt_X9_init 11 rfl) (by decide) ?_
  refine wk_newaK 8 2 (wg_da dt_X9_init 12 rfl) wq_arr (by decide) (by decide) (by decide) (by simp only [List.length_append, List.length_cons, List.length_nil, Nat.reduceAdd, Nat.reduceLT]) (by decide) (by decide) (And.intro (Nat.lt_add_right _ hk) trivial) (And.intro (Nat.lt_add_right _ hk) trivial) (Nat.le_add_right _ _) ?_
  refine wk_putRk wcf_X9_18 (wg_da dt_X9_init 13 rfl) hk (Nat.le_of_ble_eq_true rfl) (Nat.add_lt_add_left (by simp only [List.length_append, List.length_cons, List.length_nil, Nat.reduceAdd, Nat.reduceLT]) _) ?_
  refine wk_aload_n (wg_da dt_X9_init 14 rfl) rfl ?_
  refine wk_bipush (8 : Int32) (wg_da dt_X9_init 15 rfl) (by decide) ?_
  refine wk_newaK 8 3 (wg_da dt_X9_init 16 rfl) wq_arr (by decide) (by decide) (by decide) (by simp only [List.length_append, List.length_cons, List.length_nil, Nat.reduceAdd, Nat.reduceLT]) (by decide) (by decide) (And.intro (Nat.lt_add_right _ hk) trivial) (And.intro (Nat.lt_add_right _ hk) trivial) (Nat.le_add_right _ _) ?_
  refine wk_putRk wcf_X9_21 (wg_da dt_X9_init 17 rfl) hk (Nat.le_of_ble_eq_true rfl) (Nat.add_lt_add_left (by simp only [List.length_append, List.length_cons, List.length_nil, Nat.reduceAdd, Nat.reduceLT]) _) ?_
  refine wk_aload_n (wg_da dt_X9_init 18 rfl) rfl ?_
  refine wk_bipush (8 : Int32) (wg_da dt_X9_init 19 rfl) (by decide) ?_
  refine wk_newaK 8 4 (wg_da dt_X9_init 20 rfl) wq_arr (by decide) (by decide) (by decide) (by simp only [List.length_append, List.length_cons, List.length_nil, Nat.reduceAdd, Nat.reduceLT]) (by decide) (by decide) (And.intro (Nat.lt_add_right _ hk) trivial) (And.intro (Nat.lt_add_right _ hk) trivial) (Nat.le_add_right _ _) ?_
  refine wk_putRk wcf_X9_24 (wg_da dt_X9_init 21 rfl) hk (Nat.le_of_ble_eq_true rfl) (Nat.add_lt_add_left (by simp only [List.length_append, List.length_cons, List.length_nil, Nat.reduceAdd, Nat.reduceLT]) _) ?_
  refine wk_aload_n (wg_da dt_X9_init 22 rfl) rfl ?_
  refine wk_bipush (64 : Int32) (wg_da dt_X9_init 23 rfl) (by decide) ?_
  refine wk_newaK 64 5 (wg_da dt_X9_init 24 rfl) wq_arr (by decide) (by decide) (by decide) (by simp only [List.length_append, List.length_cons, List.length_nil, Nat.reduceAdd, Nat.reduceLT]) (by decide) (by decide) (And.intro (Nat.lt_add_right _ hk) trivial) (And.intro (Nat.lt_add_right _ hk) trivial) (Nat.le_add_right _ _) ?_
  refine wk_putRk wcf_X9_27 (wg_da dt_X9_init 25 rfl) hk (Nat.le_of_ble_eq_true rfl) (Nat.add_lt_add_left (by simp only [List.length_append, List.length_cons, List.length_nil, Nat.reduceAdd, Nat.reduceLT]) _) ?_
  refine wk_aload_n (wg_da dt_X9_init 26 rfl) rfl ?_
  refine wk_bipush (64 : Int32) (wg_da dt_X9_init 27 rfl) (by decide) ?_
  refine wk_newaK 64 6 (wg_da dt_X9_init 28 rfl) wq_arr (by decide) (by decide) (by decide) (by simp only [List.length_append, List.length_cons, List.length_nil, Nat.reduceAdd, Nat.reduceLT]) (by decide) (by decide) (And.intro (Nat.lt_add_right _ hk) trivial) (And.intro (Nat.lt_add_right _ hk) trivial) (Nat.le_add_right _ _) ?_
  refine wk_putRk wcf_X9_30 (wg_da dt_X9_init 29 rfl) hk (Nat.le_of_ble_eq_true rfl) (Nat.add_lt_add_left (by simp only [List.length_append, List.length_cons, List.length_nil, Nat.reduceAdd, Nat.reduceLT]) _) ?_
  refine wk_aload_n (wg_da dt_X9_init 30 rfl) rfl ?_
  refine wk_bipush (64 : Int32) (wg_da dt_X9_init 31 rfl) (by decide) ?_
  refine wk_newaK 64 7 (wg_da dt_X9_init 32 rfl) wq_arr (by decide) (by decide) (by decide) (by simp only [List.length_append, List.length_cons, List.length_nil, Nat.reduceAdd, Nat.reduceLT]) (by decide) (by decide) (And.intro (Nat.lt_add_right _ hk) trivial) (And.intro (Nat.lt_add_right _ hk) trivial) (Nat.le_add_right _ _) ?_
  refine wk_putRk wcf_X9_33 (wg_da dt_X9_init 33 rfl) hk (Nat.le_of_ble_eq_true rfl) (Nat.add_lt_add_left (by simp only [List.length_append, List.length_cons, List.length_nil, Nat.reduceAdd, Nat.reduceLT]) _) ?_
  exact wk_ret (wg_da dt_X9_init 34 rfl) (by decide) (by decide)
def ob_2 (b : Nat) : wc_X := (4, 0, ((((((wc_df 2).set 0 (.inr (some (b + 0)))).set 1 (.inr (some (b + 1)))).set 2 (.inr (some (b + 2)))).set 3 (.inr (some (b + 3)))).set 4 (.inr (some (b + 4)))))
def nw_2 (b : Nat) : wc_W := ((((([] ++ [(0, 10, [])]) ++ [(0, 10, [])]) ++ [(0, 10, [])]) ++ [(0, 10, [])]) ++ [(0, 10, [])])
theorem nl_2 {b : Nat} : (nw_2 b).length = 5 := by simp only [nw_2, List.length_append, List.length_cons, List.length_nil, nl_9, Nat.reduceAdd]
abbrev rm_X2_init : Room := { frames := 1, cells := 5, slots := 50, locals := 12 }
def tb_X2_init : List (Nat × Instr × Nat) := [(0, .aload_n 0, 1), (1, .invokespecial 3, 3), (4, .aload_n 0, 1), (5, .bipush 10, 2), (7, .newarray .int, 2), (9, .putfield 9, 3), (12, .aload_n 0, 1), (13, .bipush 10, 2), (15, .newarray .int, 2), (17, .putfield 15, 3), (20, .aload_n 0, 1), (21, .bipush 10, 2), (23, .newarray .int, 2), (25, .putfield 18, 3), (28, .aload_n 0, 1), (29, .bipush 10, 2), (31, .newarray .int, 2), (33, .putfield 21, 3), (36, .aload_n 0, 1), (37, .bipush 10, 2), (39, .newarray .int, 2), (41, .putfield 24, 3), (44, .return_, 1)]
theorem dt_X2_init : wg_dc cX2_init tb_X2_init := by unfold wg_dc; decide +kernel
set_option maxHeartbeats 40000000 in
set_option maxRecDepth 40000 in
theorem ct_2 (l : Launch) (F : wc_F) (w : wc_W) (k : Nat) (hw : w[k]? = some (4, 0, wc_df 2)) (b : Nat) (hb : w.length = b) : wc_MG l F yX2_init cX2_init 1 rm_X2_init 5 50 [.ref k] w (wc_K w k (ob_2 b) (nw_2 b)) := by
  subst hb
  have hk : k < w.length := (List.getElem?_eq_some_iff.mp hw).1
  refine wc_met [.ref k] (by decide) rfl (Nat.le_of_ble_eq_true rfl) (fun ad0 => ?_)
  have e0 : w = wc_K w k (4, 0, wc_df 2) [] := by
    apply List.ext_getElem?
    intro j
    rw [wc_K, List.append_nil, List.getElem?_set]
    split
    · next h => subst h; first | (rw [if_pos hk]; exact hw) | exact hw
    · rfl
  suffices h9 : wc_G l F "WornWigs$Judges" cX2_init 1 rm_X2_init 5 50 w.length ad0 (wc_K w k (ob_2 w.length) (nw_2 w.length)) 0 [.ref k] [] (wc_K w k (4, 0, wc_df 2) []) 0 0 by
    rw [← e0] at h9; exact h9
  refine wk_aload_n (wg_da dt_X2_init 0 rfl) rfl ?_
  refine wk_obj (wg_da dt_X2_init 1 rfl) ⟨wq_1_107, wq_1_28, wq_1_29⟩ (by decide) (by decide) ?_
  refine wk_aload_n (wg_da dt_X2_init 2 rfl) rfl ?_
  refine wk_bipush (10 : Int32) (wg_da dt_X2_init 3 rfl) (by decide) ?_
  refine wk_newaK 10 0 (wg_da dt_X2_init 4 rfl) wq_arr (by decide) (by decide) (by decide) (by simp only [List.length_append, List.length_cons, List.length_nil, nl_9, Nat.reduceAdd, Nat.reduceLT]) (by decide) (by decide) (And.intro (Nat.lt_add_right _ hk) trivial) (And.intro (Nat.lt_add_right _ hk) trivial) (Nat.le_add_right _ _) ?_
  refine wk_putRk wcf_X2_9 (wg_da dt_X2_init 5 rfl) hk (Nat.le_of_ble_eq_true rfl) (Nat.add_lt_add_left (by simp only [List.length_append, List.length_cons, List.length_nil, nl_9, Nat.reduceAdd, Nat.reduceLT]) _) ?_
  refine wk_aload_n (wg_da dt_X2_init 6 rfl) rfl ?_
  refine wk_bipush (10 : Int32) (wg_da dt_X2_init 7 rfl) (by decide) ?_
  refine wk_newaK 10 1 (wg_da dt_X2_init 8 rfl) wq_arr (by decide) (by decide) (by decide) (by simp only [List.length_append, List.length_cons, List.length_nil, nl_9, Nat.reduceAdd, Nat.reduceLT]) (by decide) (by decide) (And.intro (Nat.lt_add_right _ hk) trivial) (And.intro (Nat.lt_add_right _ hk) trivial) (Nat.le_add_right _ _) ?_
  refine wk_putRk wcf_X2_15 (wg_da dt_X2_init 9 rfl) hk (Nat.le_of_ble_eq_true rfl) (Nat.add_lt_add_left (by simp only [List.length_append, List.length_cons, List.length_nil, nl_9, Nat.reduceAdd, Nat.reduceLT]) _) ?_
  refine wk_aload_n (wg_da dt_X2_init 10 rfl) rfl ?_
  refine wk_bipush (10 : Int32) (wg_da dt_X2_init 11 rfl) (by decide) ?_
  refine wk_newaK 10 2 (wg_da dt_X2_init 12 rfl) wq_arr (by decide) (by decide) (by decide) (by simp only [List.length_append, List.length_cons, List.length_nil, nl_9, Nat.reduceAdd, Nat.reduceLT]) (by decide) (by decide) (And.intro (Nat.lt_add_right _ hk) trivial) (And.intro (Nat.lt_add_right _ hk) trivial) (Nat.le_add_right _ _) ?_
  refine wk_putRk wcf_X2_18 (wg_da dt_X2_init 13 rfl) hk (Nat.le_of_ble_eq_true rfl) (Nat.add_lt_add_left (by simp only [List.length_append, List.length_cons, List.length_nil, nl_9, Nat.reduceAdd, Nat.reduceLT]) _) ?_
  refine wk_aload_n (wg_da dt_X2_init 14 rfl) rfl ?_
  refine wk_bipush (10 : Int32) (wg_da dt_X2_init 15 rfl) (by decide) ?_
  refine wk_newaK 10 3 (wg_da dt_X2_init 16 rfl) wq_arr (by decide) (by decide) (by decide) (by simp only [List.length_append, List.length_cons, List.length_nil, nl_9, Nat.reduceAdd, Nat.reduceLT]) (by decide) (by decide) (And.intro (Nat.lt_add_right _ hk) trivial) (And.intro (Nat.lt_add_right _ hk) trivial) (Nat.le_add_right _ _) ?_
  refine wk_putRk wcf_X2_21 (wg_da dt_X2_init 17 rfl) hk (Nat.le_of_ble_eq_true rfl) (Nat.add_lt_add_left (by simp only [List.length_append, List.length_cons, List.length_nil, nl_9, Nat.reduceAdd, Nat.reduceLT]) _) ?_
  refine wk_aload_n (wg_da dt_X2_init 18 rfl) rfl ?_
  refine wk_bipush (10 : Int32) (wg_da dt_X2_init 19 rfl) (by decide) ?_
  refine wk_newaK 10 4 (wg_da dt_X2_init 20 rfl) wq_arr (by decide) (by decide) (by decide) (by simp only [List.length_append, List.length_cons, List.length_nil, nl_9, Nat.reduceAdd, Nat.reduceLT]) (by decide) (by decide) (And.intro (Nat.lt_add_right _ hk) trivial) (And.intro (Nat.lt_add_right _ hk) trivial) (Nat.le_add_right _ _) ?_
  refine wk_putRk wcf_X2_24 (wg_da dt_X2_init 21 rfl) hk (Nat.le_of_ble_eq_true rfl) (Nat.add_lt_add_left (by simp only [List.length_append, List.length_cons, List.length_nil, nl_9, Nat.reduceAdd, Nat.reduceLT]) _) ?_
  exact wk_ret (wg_da dt_X2_init 22 rfl) (by decide) (by decide)
def ob_0 (b : Nat) : wc_X := (2, 0, (((((((wc_df 0).set 0 (.inr (some (b + 0)))).set 1 (.inr (some (b + 9)))).set 2 (.inr (some (b + 15)))).set 3 (.inr (some (b + 16)))).set 4 (.inr (some (b + 17)))).set 5 (.inr (some (b + 18)))))
def nw_0 (b : Nat) : wc_W := (((((((([] ++ [ob_9 (b + 1)]) ++ nw_9 (b + 1)) ++ [ob_2 (b + 10)]) ++ nw_2 (b + 10)) ++ [(0, 14, [])]) ++ [(0, 14, [])]) ++ [(0, 14, [])]) ++ [(0, 14, [])])
theorem nl_0 {b : Nat} : (nw_0 b).length = 19 := by simp only [nw_0, List.length_append, List.length_cons, List.length_nil, nl_9, nl_2, Nat.reduceAdd]
abbrev rm_X0_init : Room := { frames := 2, cells := 19, slots := 353, locals := 32 }
def tb_X0_init : List (Nat × Instr × Nat) := [(0, .aload_n 0, 1), (1, .invokespecial 3, 3), (4, .aload_n 0, 1), (5, .new 9, 3), (8, .dup, 1), (9, .invokespecial 11, 3), (12, .putfield 12, 3), (15, .aload_n 0, 1), (16, .new 18, 3), (19, .dup, 1), (20, .invokespecial 20, 3), (23, .putfield 21, 3), (26, .aload_n 0, 1), (27, .bipush 14, 2), (29, .newarray .int, 2), (31, .putfield 25, 3), (34, .aload_n 0, 1), (35, .bipush 14, 2), (37, .newarray .int, 2), (39, .putfield 29, 3), (42, .aload_n 0, 1), (43, .bipush 14, 2), (45, .newarray .int, 2), (47, .putfield 32, 3), (50, .aload_n 0, 1), (51, .bipush 14, 2), (53, .newarray .int, 2), (55, .putfield 35, 3), (58, .return_, 1)]
theorem dt_X0_init : wg_dc cX0_init tb_X0_init := by unfold wg_dc; decide +kernel
set_option maxHeartbeats 40000000 in
set_option maxRecDepth 40000 in
theorem ct_0 (l : Launch) (F : wc_F) (w : wc_W) (k : Nat) (hw : w[k]? = some (2, 0, wc_df 0)) (b : Nat) (hb : w.length = b) : wc_MG l F yX0_init cX0_init 1 rm_X0_init 19 353 [.ref k] w (wc_K w k (ob_0 b) (nw_0 b)) := by
  subst hb
  have hk : k < w.length := (List.getElem?_eq_some_iff.mp hw).1
  refine wc_met [.ref k] (by decide) rfl (Nat.le_of_ble_eq_true rfl) (fun ad0 => ?_)
  have e0 : w = wc_K w k (2, 0, wc_df 0) [] := by
    apply List.ext_getElem?
    intro j
    rw [wc_K, List.append_nil, List.getElem?_set]
    split
    · next h => subst h; first | (rw [if_pos hk]; exact hw) | exact hw
    · rfl
  suffices h9 : wc_G l F "WornWigs$Bench" cX0_init 1 rm_X0_init 19 353 w.length ad0 (wc_K w k (ob_0 w.length) (nw_0 w.length)) 0 [.ref k] [] (wc_K w k (2, 0, wc_df 0) []) 0 0 by
    rw [← e0] at h9; exact h9
  refine wk_aload_n (wg_da dt_X0_init 0 rfl) rfl ?_
  refine wk_obj (wg_da dt_X0_init 1 rfl) ⟨wq_1_41, wq_1_28, wq_1_29⟩ (by decide) (by decide) ?_
  refine wk_aload_n (wg_da dt_X0_init 2 rfl) rfl ?_
  refine wk_newK 0 wc_9 (wg_da dt_X0_init 3 rfl) ⟨wq_1_42, wq_1_43, wq_1_4⟩ (wc_d9) (wc_e9) (by simp only [List.length_append, List.length_cons, List.length_nil, nl_9, nl_2, Nat.reduceAdd, Nat.reduceLT]) (by decide) (by decide) (And.intro (Nat.lt_add_right _ hk) trivial) (And.intro (Nat.lt_add_right _ hk) trivial) (Nat.le_add_right _ _) ?_
  refine wk_dup (wg_da dt_X0_init 4 rfl) ?_
  refine wk_callNL 0 1 [] (wg_da dt_X0_init 5 rfl) ⟨List.mem_of_getElem? (i := 2) rfl, wq_1_45⟩ rfl wy_X9_init (by simp only [List.length_append, List.length_cons, List.length_nil, nl_9, nl_2, Nat.reduceAdd, Nat.reduceLT]) rfl (ct_9 l F _ _ (wc_K_n (wc_last (by simp only [List.length_append, List.length_cons, List.length_nil, nl_9, nl_2, Nat.reduceAdd, Nat.reduceLT]))) (w.length + 1) (by rw [wc_K_len]; exact congrArg _ (by simp only [List.length_append, List.length_cons, List.length_nil, nl_9, nl_2, Nat.reduceAdd, Nat.reduceLT])) ) rfl [.ref (w.length + 0), .ref k] rfl (Nat.le_of_ble_eq_true rfl) ⟨rfl, rfl, by decide, by decide, by decide, by decide⟩ (And.intro (Nat.lt_add_right _ hk) trivial) (And.intro (Nat.add_lt_add_left (Nat.le_of_ble_eq_true rfl) _) (And.intro (Nat.lt_add_right _ hk) trivial)) (Nat.le_add_right _ _) ?_
  refine wk_putRk wcf_X0_12 (wg_da dt_X0_init 6 rfl) hk (Nat.le_of_ble_eq_true rfl) (Nat.add_lt_add_left (by simp only [List.length_append, List.length_cons, List.length_nil, nl_9, nl_2, Nat.reduceAdd, Nat.reduceLT]) _) ?_
  refine wk_aload_n (wg_da dt_X0_init 7 rfl) rfl ?_
  refine wk_newK 9 wc_2 (wg_da dt_X0_init 8 rfl) ⟨wq_1_102, wq_1_103, wq_1_5⟩ (wc_d2) (wc_e2) (by simp only [List.length_append, List.length_cons, List.length_nil, nl_9, nl_2, Nat.reduceAdd, Nat.reduceLT]) (by decide) (by decide) (And.intro (Nat.lt_add_right _ hk) trivial) (And.intro (Nat.lt_add_right _ hk) trivial) (Nat.le_add_right _ _) ?_
  refine wk_dup (wg_da dt_X0_init 9 rfl) ?_
  refine wk_callNL 9 10 [] (wg_da dt_X0_init 10 rfl) ⟨List.mem_of_getElem? (i := 3) rfl, wq_1_105⟩ rfl wy_X2_init (by simp only [List.length_append, List.length_cons, List.length_nil, nl_9, nl_2, Nat.reduceAdd, Nat.reduceLT]) rfl (ct_2 l F _ _ (wc_K_n (wc_last (by simp only [List.length_append, List.length_cons, List.length_nil, nl_9, nl_2, Nat.reduceAdd, Nat.reduceLT]))) (w.length + 10) (by rw [wc_K_len]; exact congrArg _ (by simp only [List.length_append, List.length_cons, List.length_nil, nl_9, nl_2, Nat.reduceAdd, Nat.reduceLT])) ) rfl [.ref (w.length + 9), .ref k] rfl (Nat.le_of_ble_eq_true rfl) ⟨rfl, rfl, by decide, by decide, by decide, by decide⟩ (And.intro (Nat.lt_add_right _ hk) trivial) (And.intro (Nat.add_lt_add_left (Nat.le_of_ble_eq_true rfl) _) (And.intro (Nat.lt_add_right _ hk) trivial)) (Nat.le_add_right _ _) ?_
  refine wk_putRk wcf_X0_21 (wg_da dt_X0_init 11 rfl) hk (Nat.le_of_ble_eq_true rfl) (Nat.add_lt_add_left (by simp only [List.length_append, List.length_cons, List.length_nil, nl_9, nl_2, Nat.reduceAdd, Nat.reduceLT]) _) ?_
  refine wk_aload_n (wg_da dt_X0_init 12 rfl) rfl ?_
  refine wk_bipush (14 : Int32) (wg_da dt_X0_init 13 rfl) (by decide) ?_
  refine wk_newaK 14 15 (wg_da dt_X0_init 14 rfl) wq_arr (by decide) (by decide) (by decide) (by simp only [List.length_append, List.length_cons, List.length_nil, nl_9, nl_2, Nat.reduceAdd, Nat.reduceLT]) (by decide) (by decide) (And.intro (Nat.lt_add_right _ hk) trivial) (And.intro (Nat.lt_add_right _ hk) trivial) (Nat.le_add_right _ _) ?_
  refine wk_putRk wcf_X0_25 (wg_da dt_X0_init 15 rfl) hk (Nat.le_of_ble_eq_true rfl) (Nat.add_lt_add_left (by simp only [List.length_append, List.length_cons, List.length_nil, nl_9, nl_2, Nat.reduceAdd, Nat.reduceLT]) _) ?_
  refine wk_aload_n (wg_da dt_X0_init 16 rfl) rfl ?_
  refine wk_bipush (14 : Int32) (wg_da dt_X0_init 17 rfl) (by decide) ?_
  refine wk_newaK 14 16 (wg_da dt_X0_init 18 rfl) wq_arr (by decide) (by decide) (by decide) (by simp only [List.length_append, List.length_cons, List.length_nil, nl_9, nl_2, Nat.reduceAdd, Nat.reduceLT]) (by decide) (by decide) (And.intro (Nat.lt_add_right _ hk) trivial) (And.intro (Nat.lt_add_right _ hk) trivial) (Nat.le_add_right _ _) ?_
  refine wk_putRk wcf_X0_29 (wg_da dt_X0_init 19 rfl) hk (Nat.le_of_ble_eq_true rfl) (Nat.add_lt_add_left (by simp only [List.length_append, List.length_cons, List.length_nil, nl_9, nl_2, Nat.reduceAdd, Nat.reduceLT]) _) ?_
  refine wk_aload_n (wg_da dt_X0_init 20 rfl) rfl ?_
  refine wk_bipush (14 : Int32) (wg_da dt_X0_init 21 rfl) (by decide) ?_
  refine wk_newaK 14 17 (wg_da dt_X0_init 22 rfl) wq_arr (by decide) (by decide) (by decide) (by simp only [List.length_append, List.length_cons, List.length_nil, nl_9, nl_2, Nat.reduceAdd, Nat.reduceLT]) (by decide) (by decide) (And.intro (Nat.lt_add_right _ hk) trivial) (And.intro (Nat.lt_add_right _ hk) trivial) (Nat.le_add_right _ _) ?_
  refine wk_putRk wcf_X0_32 (wg_da dt_X0_init 23 rfl) hk (Nat.le_of_ble_eq_true rfl) (Nat.add_lt_add_left (by simp only [List.length_append, List.length_cons, List.length_nil, nl_9, nl_2, Nat.reduceAdd, Nat.reduceLT]) _) ?_
  refine wk_aload_n (wg_da dt_X0_init 24 rfl) rfl ?_
  refine wk_bipush (14 : Int32) (wg_da dt_X0_init 25 rfl) (by decide) ?_
  refine wk_newaK 14 18 (wg_da dt_X0_init 26 rfl) wq_arr (by decide) (by decide) (by decide) (by simp only [List.length_append, List.length_cons, List.length_nil, nl_9, nl_2, Nat.reduceAdd, Nat.reduceLT]) (by decide) (by decide) (And.intro (Nat.lt_add_right _ hk) trivial) (And.intro (Nat.lt_add_right _ hk) trivial) (Nat.le_add_right _ _) ?_
  refine wk_putRk wcf_X0_35 (wg_da dt_X0_init 27 rfl) hk (Nat.le_of_ble_eq_true rfl) (Nat.add_lt_add_left (by simp only [List.length_append, List.length_cons, List.length_nil, nl_9, nl_2, Nat.reduceAdd, Nat.reduceLT]) _) ?_
  exact wk_ret (wg_da dt_X0_init 28 rfl) (by decide) (by decide)
def ob_4 (b : Nat) (nn : Nat) : wc_X := (6, 0, (((((wc_df 4).set 0 (.inr (some (b + 0)))).set 1 (.inr (some (b + 1)))).set 2 (.inr (some (b + 2)))).set 3 (.inr (some (b + 3)))))
def nw_4 (b : Nat) (nn : Nat) : wc_W := (((([] ++ [(0, nn, [])]) ++ [(0, nn, [])]) ++ [(0, nn, [])]) ++ [(0, nn, [])])
theorem nl_4 {b : Nat} {nn : Nat} : (nw_4 b nn).length = 4 := by simp only [nw_4, List.length_append, List.length_cons, List.length_nil, nl_9, nl_2, nl_0, Nat.reduceAdd]
abbrev rm_X4_init : Room := { frames := 1, cells := 4, slots := 800, locals := 13 }
def tb_X4_init : List (Nat × Instr × Nat) := [(0, .aload_n 0, 1), (1, .invokespecial 1, 3), (4, .iconst 0, 1), (5, .iload_n 1, 1), (6, .invokestatic 7, 3), (9, .istore_n 2, 1), (10, .aload_n 0, 1), (11, .iload_n 2, 1), (12, .newarray .int, 2), (14, .putfield 13, 3), (17, .aload_n 0, 1), (18, .iload_n 2, 1), (19, .newarray .int, 2), (21, .putfield 19, 3), (24, .aload_n 0, 1), (25, .iload_n 2, 1), (26, .newarray .int, 2), (28, .putfield 22, 3), (31, .aload_n 0, 1), (32, .iload_n 2, 1), (33, .newarray .int, 2), (35, .putfield 25, 3), (38, .return_, 1)]
theorem dt_X4_init : wg_dc cX4_init tb_X4_init := by unfold wg_dc; decide +kernel
set_option maxHeartbeats 40000000 in
set_option maxRecDepth 40000 in
theorem ct_4 (l : Launch) (F : wc_F) (w : wc_W) (k : Nat) (hw : w[k]? = some (6, 0, wc_df 4)) (b : Nat) (hb : w.length = b) (x1 : Int32) (nn : Nat) (hmax : (if (0 : Int32) < x1 then x1 else 0) = x1) (hn1 : ¬ x1 < 0) (hn2 : x1.toNatClampNeg = nn) (hn3 : nn * 4 ≤ 536870912) (hn4 : nn ≤ 200) : wc_MG l F yX4_init cX4_init 3 rm_X4_init 4 800 [.ref k, .int x1] w (wc_K w k (ob_4 b nn) (nw_4 b nn)) := by
  subst hb
  have hk : k < w.length := (List.getElem?_eq_some_iff.mp hw).1
  refine wc_met [.ref k, .int x1] (by decide) rfl (Nat.le_of_ble_eq_true rfl) (fun ad0 => ?_)
  have e0 : w = wc_K w k (6, 0, wc_df 4) [] := by
    apply List.ext_getElem?
    intro j
    rw [wc_K, List.append_nil, List.getElem?_set]
    split
    · next h => subst h; first | (rw [if_pos hk]; exact hw) | exact hw
    · rfl
  suffices h9 : wc_G l F "WornWigs$Lines" cX4_init 3 rm_X4_init 4 800 w.length ad0 (wc_K w k (ob_4 w.length nn) (nw_4 w.length nn)) 0 [.ref k, .int x1] [] (wc_K w k (6, 0, wc_df 4) []) 0 0 by
    rw [← e0] at h9; exact h9
  refine wk_aload_n (wg_da dt_X4_init 0 rfl) rfl ?_
  refine wk_obj (wg_da dt_X4_init 1 rfl) ⟨wq_1_200, wq_1_28, wq_1_29⟩ (by decide) (by decide) ?_
  refine wk_iconst (0 : Int32) (wg_da dt_X4_init 2 rfl) (by decide) ?_
  refine wk_iload_n (wg_da dt_X4_init 3 rfl) rfl ?_
  refine wk_max (wg_da dt_X4_init 4 rfl) ⟨wq_1_201, wq_1_202, wq_1_7, wq_1_203⟩ (by decide) (by decide) rfl (by decide) (by decide) x1 hmax ?_
  refine wk_istoreA (wg_da dt_X4_init 5 rfl) (by decide) rfl ?_
  refine wk_aload_n (wg_da dt_X4_init 6 rfl) rfl ?_
  refine wk_iload_n (wg_da dt_X4_init 7 rfl) rfl ?_
  refine wk_newaK nn 0 (wg_da dt_X4_init 8 rfl) wq_arr hn1 hn2 hn3 (by simp only [List.length_append, List.length_cons, List.length_nil, nl_9, nl_2, nl_0, Nat.reduceAdd, Nat.reduceLT]) (by show _ ≤ _; decide) (by show _ ≤ 800; omega) (And.intro (Nat.lt_add_right _ hk) trivial) (And.intro (Nat.lt_add_right _ hk) trivial) (Nat.le_add_right _ _) ?_
  refine wk_putRk wcf_X4_13 (wg_da dt_X4_init 9 rfl) hk (Nat.le_of_ble_eq_true rfl) (Nat.add_lt_add_left (by simp only [List.length_append, List.length_cons, List.length_nil, nl_9, nl_2, nl_0, Nat.reduceAdd, Nat.reduceLT]) _) ?_
  refine wk_aload_n (wg_da dt_X4_init 10 rfl) rfl ?_
  refine wk_iload_n (wg_da dt_X4_init 11 rfl) rfl ?_
  refine wk_newaK nn 1 (wg_da dt_X4_init 12 rfl) wq_arr hn1 hn2 hn3 (by simp only [List.length_append, List.length_cons, List.length_nil, nl_9, nl_2, nl_0, Nat.reduceAdd, Nat.reduceLT]) (by show _ ≤ _; decide) (by show _ ≤ 800; omega) (And.intro (Nat.lt_add_right _ hk) trivial) (And.intro (Nat.lt_add_right _ hk) trivial) (Nat.le_add_right _ _) ?_
  refine wk_putRk wcf_X4_19 (wg_da dt_X4_init 13 rfl) hk (Nat.le_of_ble_eq_true rfl) (Nat.add_lt_add_left (by simp only [List.length_append, List.length_cons, List.length_nil, nl_9, nl_2, nl_0, Nat.reduceAdd, Nat.reduceLT]) _) ?_
  refine wk_aload_n (wg_da dt_X4_init 14 rfl) rfl ?_
  refine wk_iload_n (wg_da dt_X4_init 15 rfl) rfl ?_
  refine wk_newaK nn 2 (wg_da dt_X4_init 16 rfl) wq_arr hn1 hn2 hn3 (by simp only [List.length_append, List.length_cons, List.length_nil, nl_9, nl_2, nl_0, Nat.reduceAdd, Nat.reduceLT]) (by show _ ≤ _; decide) (by show _ ≤ 800; omega) (And.intro (Nat.lt_add_right _ hk) trivial) (And.intro (Nat.lt_add_right _ hk) trivial) (Nat.le_add_right _ _) ?_
  refine wk_putRk wcf_X4_22 (wg_da dt_X4_init 17 rfl) hk (Nat.le_of_ble_eq_true rfl) (Nat.add_lt_add_left (by simp only [List.length_append, List.length_cons, List.length_nil, nl_9, nl_2, nl_0, Nat.reduceAdd, Nat.reduceLT]) _) ?_
  refine wk_aload_n (wg_da dt_X4_init 18 rfl) rfl ?_
  refine wk_iload_n (wg_da dt_X4_init 19 rfl) rfl ?_
  refine wk_newaK nn 3 (wg_da dt_X4_init 20 rfl) wq_arr hn1 hn2 hn3 (by simp only [List.length_append, List.length_cons, List.length_nil, nl_9, nl_2, nl_0, Nat.reduceAdd, Nat.reduceLT]) (by show _ ≤ _; decide) (by show _ ≤ 800; omega) (And.intro (Nat.lt_add_right _ hk) trivial) (And.intro (Nat.lt_add_right _ hk) trivial) (Nat.le_add_right _ _) ?_
  refine wk_putRk wcf_X4_25 (wg_da dt_X4_init 21 rfl) hk (Nat.le_of_ble_eq_true rfl) (Nat.add_lt_add_left (by simp only [List.length_append, List.length_cons, List.length_nil, nl_9, nl_2, nl_0, Nat.reduceAdd, Nat.reduceLT]) _) ?_
  exact wk_ret (wg_da dt_X4_init 22 rfl) (by decide) (by omega)
def ob_3 (b : Nat) : wc_X := (5, 0, ((((((((wc_df 3).set 0 (.inr (some (b + 0)))).set 1 (.inr (some (b + 1)))).set 3 (.inr (some (b + 2)))).set 4 (.inr (some (b + 3)))).set 5 (.inr (some (b + 4)))).set 7 (.inr (some (b + 5)))).set 8 (.inr (some (b + 6)))))
def nw_3 (b : Nat) : wc_W := ((((((([] ++ [(0, 400, [])]) ++ [(0, 400, [])]) ++ [(0, 16, [])]) ++ [(0, 16, [])]) ++ [(0, 16, [])]) ++ [(0, 10, [])]) ++ [(0, 32, [])])
theorem nl_3 {b : Nat} : (nw_3 b).length = 7 := by simp only [nw_3, List.length_append, List.length_cons, List.length_nil, nl_9, nl_2, nl_0, nl_4, Nat.reduceAdd]
abbrev rm_X3_init : Room := { frames := 1, cells := 7, slots := 890, locals := 12 }
def tb_X3_init : List (Nat × Instr × Nat) := [(0, .aload_n 0, 1), (1, .invokespecial 3, 3), (4, .aload_n 0, 1), (5, .sipush 400, 3), (8, .newarray .int, 2), (10, .putfield 9, 3), (13, .aload_n 0, 1), (14, .sipush 400, 3), (17, .newarray .int, 2), (19, .putfield 15, 3), (22, .aload_n 0, 1), (23, .bipush 16, 2), (25, .newarray .int, 2), (27, .putfield 18, 3), (30, .aload_n 0, 1), (31, .bipush 16, 2), (33, .newarray .int, 2), (35, .putfield 21, 3), (38, .aload_n 0, 1), (39, .bipush 16, 2), (41, .newarray .int, 2), (43, .putfield 24, 3), (46, .aload_n 0, 1), (47, .bipush 10, 2), (49, .newarray .int, 2), (51, .putfield 27, 3), (54, .aload_n 0, 1), (55, .bipush 32, 2), (57, .newarray .int, 2), (59, .putfield 30, 3), (62, .return_, 1)]
theorem dt_X3_init : wg_dc cX3_init tb_X3_init := by unfold wg_dc; decide +kernel
set_option maxHeartbeats 40000000 in
set_option maxRecDepth 40000 in
theorem ct_3 (l : Launch) (F : wc_F) (w : wc_W) (k : Nat) (hw : w[k]? = some (5, 0, wc_df 3)) (b : Nat) (hb : w.length = b) : wc_MG l F yX3_init cX3_init 1 rm_X3_init 7 890 [.ref k] w (wc_K w k (ob_3 b) (nw_3 b)) := by
  subst hb
  have hk : k < w.length := (List.getElem?_eq_some_iff.mp hw).1
  refine wc_met [.ref k] (by decide) rfl (Nat.le_of_ble_eq_true rfl) (fun ad0 => ?_)
  have e0 : w = wc_K w k (5, 0, wc_df 3) [] := by
    apply List.ext_getElem?
    intro j
    rw [wc_K, List.append_nil, List.getElem?_set]
    split
    · next h => subst h; first | (rw [if_pos hk]; exact hw) | exact hw
    · rfl
  suffices h9 : wc_G l F "WornWigs$Law" cX3_init 1 rm_X3_init 7 890 w.length ad0 (wc_K w k (ob_3 w.length) (nw_3 w.length)) 0 [.ref k] [] (wc_K w k (5, 0, wc_df 3) []) 0 0 by
    rw [← e0] at h9; exact h9
  refine wk_aload_n (wg_da dt_X3_init 0 rfl) rfl ?_
  refine wk_obj (wg_da dt_X3_init 1 rfl) ⟨wq_1_239, wq_1_28, wq_1_29⟩ (by decide) (by decide) ?_
  refine wk_aload_n (wg_da dt_X3_init 2 rfl) rfl ?_
  refine wk_sipush (400 : Int32) (wg_da dt_X3_init 3 rfl) (by decide) ?_
  refine wk_newaK 400 0 (wg_da dt_X3_init 4 rfl) wq_arr (by decide) (by decide) (by decide) (by simp only [List.length_append, List.length_cons, List.length_nil, nl_9, nl_2, nl_0, nl_4, Nat.reduceAdd, Nat.reduceLT]) (by decide) (by decide) (And.intro (Nat.lt_add_right _ hk) trivial) (And.intro (Nat.lt_add_right _ hk) trivial) (Nat.le_add_right _ _) ?_
  refine wk_putRk wcf_X3_9 (wg_da dt_X3_init 5 rfl) hk (Nat.le_of_ble_eq_true rfl) (Nat.add_lt_add_left (by simp only [List.length_append, List.length_cons, List.length_nil, nl_9, nl_2, nl_0, nl_4, Nat.reduceAdd, Nat.reduceLT]) _) ?_
  refine wk_aload_n (wg_da dt_X3_init 6 rfl) rfl ?_
  refine wk_sipush (400 : Int32) (wg_da dt_X3_init 7 rfl) (by decide) ?_
  refine wk_newaK 400 1 (wg_da dt_X3_init 8 rfl) wq_arr (by decide) (by decide) (by decide) (by simp only [List.length_append, List.length_cons, List.length_nil, nl_9, nl_2, nl_0, nl_4, Nat.reduceAdd, Nat.reduceLT]) (by decide) (by decide) (And.intro (Nat.lt_add_right _ hk) trivial) (And.intro (Nat.lt_add_right _ hk) trivial) (Nat.le_add_right _ _) ?_
  refine wk_putRk wcf_X3_15 (wg_da dt_X3_init 9 rfl) hk (Nat.le_of_ble_eq_true rfl) (Nat.add_lt_add_left (by simp only [List.length_append, List.length_cons, List.length_nil, nl_9, nl_2, nl_0, nl_4, Nat.reduceAdd, Nat.reduceLT]) _) ?_
  refine wk_aload_n (wg_da dt_X3_init 10 rfl) rfl ?_
  refine wk_bipush (16 : Int32) (wg_da dt_X3_init 11 rfl) (by decide) ?_
  refine wk_newaK 16 2 (wg_da dt_X3_init 12 rfl) wq_arr (by decide) (by decide) (by decide) (by simp only [List.length_append, List.length_cons, List.length_nil, nl_9, nl_2, nl_0, nl_4, Nat.reduceAdd, Nat.reduceLT]) (by decide) (by decide) (And.intro (Nat.lt_add_right _ hk) trivial) (And.intro (Nat.lt_add_right _ hk) trivial) (Nat.le_add_right _ _) ?_
  refine wk_putRk wcf_X3_18 (wg_da dt_X3_init 13 rfl) hk (Nat.le_of_ble_eq_true rfl) (Nat.add_lt_add_left (by simp only [List.length_append, List.length_cons, List.length_nil, nl_9, nl_2, nl_0, nl_4, Nat.reduceAdd, Nat.reduceLT]) _) ?_
  refine wk_aload_n (wg_da dt_X3_init 14 rfl) rfl ?_
  refine wk_bipush (16 : Int32) (wg_da dt_X3_init 15 rfl) (by decide) ?_
  refine wk_newaK 16 3 (wg_da dt_X3_init 16 rfl) wq_arr (by decide) (by decide) (by decide) (by simp only [List.length_append, List.length_cons, List.length_nil, nl_9, nl_2, nl_0, nl_4, Nat.reduceAdd, Nat.reduceLT]) (by decide) (by decide) (And.intro (Nat.lt_add_right _ hk) trivial) (And.intro (Nat.lt_add_right _ hk) trivial) (Nat.le_add_right _ _) ?_
  refine wk_putRk wcf_X3_21 (wg_da dt_X3_init 17 rfl) hk (Nat.le_of_ble_eq_true rfl) (Nat.add_lt_add_left (by simp only [List.length_append, List.length_cons, List.length_nil, nl_9, nl_2, nl_0, nl_4, Nat.reduceAdd, Nat.reduceLT]) _) ?_
  refine wk_aload_n (wg_da dt_X3_init 18 rfl) rfl ?_
  refine wk_bipush (16 : Int32) (wg_da dt_X3_init 19 rfl) (by decide) ?_
  refine wk_newaK 16 4 (wg_da dt_X3_init 20 rfl) wq_arr (by decide) (by decide) (by decide) (by simp only [List.length_append, List.length_cons, List.length_nil, nl_9, nl_2, nl_0, nl_4, Nat.reduceAdd, Nat.reduceLT]) (by decide) (by decide) (And.intro (Nat.lt_add_right _ hk) trivial) (And.intro (Nat.lt_add_right _ hk) trivial) (Nat.le_add_right _ _) ?_
  refine wk_putRk wcf_X3_24 (wg_da dt_X3_init 21 rfl) hk (Nat.le_of_ble_eq_true rfl) (Nat.add_lt_add_left (by simp only [List.length_append, List.length_cons, List.length_nil, nl_9, nl_2, nl_0, nl_4, Nat.reduceAdd, Nat.reduceLT]) _) ?_
  refine wk_aload_n (wg_da dt_X3_init 22 rfl) rfl ?_
  refine wk_bipush (10 : Int32) (wg_da dt_X3_init 23 rfl) (by decide) ?_
  refine wk_newaK 10 5 (wg_da dt_X3_init 24 rfl) wq_arr (by decide) (by decide) (by decide) (by simp only [List.length_append, List.length_cons, List.length_nil, nl_9, nl_2, nl_0, nl_4, Nat.reduceAdd, Nat.reduceLT]) (by decide) (by decide) (And.intro (Nat.lt_add_right _ hk) trivial) (And.intro (Nat.lt_add_right _ hk) trivial) (Nat.le_add_right _ _) ?_
  refine wk_putRk wcf_X3_27 (wg_da dt_X3_init 25 rfl) hk (Nat.le_of_ble_eq_true rfl) (Nat.add_lt_add_left (by simp only [List.length_append, List.length_cons, List.length_nil, nl_9, nl_2, nl_0, nl_4, Nat.reduceAdd, Nat.reduceLT]) _) ?_
  refine wk_aload_n (wg_da dt_X3_init 26 rfl) rfl ?_
  refine wk_bipush (32 : Int32) (wg_da dt_X3_init 27 rfl) (by decide) ?_
  refine wk_newaK 32 6 (wg_da dt_X3_init 28 rfl) wq_arr (by decide) (by decide) (by decide) (by simp only [List.length_append, List.length_cons, List.length_nil, nl_9, nl_2, nl_0, nl_4, Nat.reduceAdd, Nat.reduceLT]) (by decide) (by decide) (And.intro (Nat.lt_add_right _ hk) trivial) (And.intro (Nat.lt_add_right _ hk) trivial) (Nat.le_add_right _ _) ?_
  refine wk_putRk wcf_X3_30 (wg_da dt_X3_init 29 rfl) hk (Nat.le_of_ble_eq_true rfl) (Nat.add_lt_add_left (by simp only [List.length_append, List.length_cons, List.length_nil, nl_9, nl_2, nl_0, nl_4, Nat.reduceAdd, Nat.reduceLT]) _) ?_
  exact wk_ret (wg_da dt_X3_init 30 rfl) (by decide) (by decide)
def ob_8 (b : Nat) : wc_X := (10, 0, ((((((((((wc_df 8).set 0 (.inr (some (b + 0)))).set 1 (.inr (some (b + 1)))).set 2 (.inr (some (b + 2)))).set 4 (.inr (some (b + 3)))).set 5 (.inr (some (b + 4)))).set 7 (.inr (some (b + 5)))).set 8 (.inr (some (b + 6)))).set 9 (.inr (some (b + 7)))).set 11 (.inr (some (b + 8)))))
def nw_8 (b : Nat) : wc_W := ((((((((([] ++ [(0, 8, [])]) ++ [(0, 8, [])]) ++ [(0, 8, [])]) ++ [(0, 16, [])]) ++ [(0, 16, [])]) ++ [(0, 20, [])]) ++ [(0, 7, [])]) ++ [(0, 7, [])]) ++ [(0, 14, [])])
theorem nl_8 {b : Nat} : (nw_8 b).length = 9 := by simp only [nw_8, List.length_append, List.length_cons, List.length_nil, nl_9, nl_2, nl_0, nl_4, nl_3, Nat.reduceAdd]
abbrev rm_X8_init : Room := { frames := 1, cells := 9, slots := 104, locals := 12 }
def tb_X8_init : List (Nat × Instr × Nat) := [(0, .aload_n 0, 1), (1, .invokespecial 3, 3), (4, .aload_n 0, 1), (5, .bipush 8, 2), (7, .newarray .int, 2), (9, .putfield 9, 3), (12, .aload_n 0, 1), (13, .bipush 8, 2), (15, .newarray .int, 2), (17, .putfield 15, 3), (20, .aload_n 0, 1), (21, .bipush 8, 2), (23, .newarray .int, 2), (25, .putfield 18, 3), (28, .aload_n 0, 1), (29, .bipush 16, 2), (31, .newarray .int, 2), (33, .putfield 21, 3), (36, .aload_n 0, 1), (37, .bipush 16, 2), (39, .newarray .int, 2), (41, .putfield 24, 3), (44, .aload_n 0, 1), (45, .bipush 20, 2), (47, .newarray .int, 2), (49, .putfield 27, 3), (52, .aload_n 0, 1), (53, .bipush 7, 2), (55, .newarray .int, 2), (57, .putfield 30, 3), (60, .aload_n 0, 1), (61, .bipush 7, 2), (63, .newarray .int, 2), (65, .putfield 33, 3), (68, .aload_n 0, 1), (69, .bipush 14, 2), (71, .newarray .int, 2), (73, .putfield 36, 3), (76, .return_, 1)]
theorem dt_X8_init : wg_dc cX8_init tb_X8_init := by unfold wg_dc; decide +kernel
set_option maxHeartbeats 40000000 in
set_option maxRecDepth 40000 in
theorem ct_8 (l : Launch) (F : wc_F) (w : wc_W) (k : Nat) (hw : w[k]? = some (10, 0, wc_df 8)) (b : Nat) (hb : w.length = b) : wc_MG l F yX8_init cX8_init 1 rm_X8_init 9 104 [.ref k] w (wc_K w k (ob_8 b) (nw_8 b)) := by
  subst hb
  have hk : k < w.length := (List.getElem?_eq_some_iff.mp hw).1
  refine wc_met [.ref k] (by decide) rfl (Nat.le_of_ble_eq_true rfl) (fun ad0 => ?_)
  have e0 : w = wc_K w k (10, 0, wc_df 8) [] := by
    apply List.ext_getElem?
    intro j
    rw [wc_K, List.append_nil, List.getElem?_set]
    split
    · next h => subst h; first | (rw [if_pos hk]; exact hw) | exact hw
    · rfl
  suffices h9 : wc_G l F "WornWigs$Told" cX8_init 1 rm_X8_init 9 104 w.length ad0 (wc_K w k (ob_8 w.length) (nw_8 w.length)) 0 [.ref k] [] (wc_K w k (10, 0, wc_df 8) []) 0 0 by
    rw [← e0] at h9; exact h9
  refine wk_aload_n (wg_da dt_X8_init 0 rfl) rfl ?_
  refine wk_obj (wg_da dt_X8_init 1 rfl) ⟨wq_2_40, wq_1_28, wq_1_29⟩ (by decide) (by decide) ?_
  refine wk_aload_n (wg_da dt_X8_init 2 rfl) rfl ?_
  refine wk_bipush (8 : Int32) (wg_da dt_X8_init 3 rfl) (by decide) ?_
  refine wk_newaK 8 0 (wg_da dt_X8_init 4 rfl) wq_arr (by decide) (by decide) (by decide) (by simp only [List.length_append, List.length_cons, List.length_nil, nl_9, nl_2, nl_0, nl_4, nl_3, Nat.reduceAdd, Nat.reduceLT]) (by decide) (by decide) (And.intro (Nat.lt_add_right _ hk) trivial) (And.intro (Nat.lt_add_right _ hk) trivial) (Nat.le_add_right _ _) ?_
  refine wk_putRk wcf_X8_9 (wg_da dt_X8_init 5 rfl) hk (Nat.le_of_ble_eq_true rfl) (Nat.add_lt_add_left (by simp only [List.length_append, List.length_cons, List.length_nil, nl_9, nl_2, nl_0, nl_4, nl_3, Nat.reduceAdd, Nat.reduceLT]) _) ?_
  refine wk_aload_n (wg_da dt_X8_init 6 rfl) rfl ?_
  refine wk_bipush (8 : Int32) (wg_da dt_X8_init 7 rfl) (by decide) ?_
  refine wk_newaK 8 1 (wg_da dt_X8_init 8 rfl) wq_arr (by decide) (by decide) (by decide) (by simp only [List.length_append, List.length_cons, List.length_nil, nl_9, nl_2, nl_0, nl_4, nl_3, Nat.reduceAdd, Nat.reduceLT]) (by decide) (by decide) (And.intro (Nat.lt_add_right _ hk) trivial) (And.intro (Nat.lt_add_right _ hk) trivial) (Nat.le_add_right _ _) ?_
  refine wk_putRk wcf_X8_15 (wg_da dt_X8_init 9 rfl) hk (Nat.le_of_ble_eq_true rfl) (Nat.add_lt_add_left (by simp only [List.length_append, List.length_cons, List.length_nil, nl_9, nl_2, nl_0, nl_4, nl_3, Nat.reduceAdd, Nat.reduceLT]) _) ?_
  refine wk_aload_n (wg_da dt_X8_init 10 rfl) rfl ?_
  refine wk_bipush (8 : Int32) (wg_da dt_X8_init 11 rfl) (by decide) ?_
  refine wk_newaK 8 2 (wg_da dt_X8_init 12 rfl) wq_arr (by decide) (by decide) (by decide) (by simp only [List.length_append, List.length_cons, List.length_nil, nl_9, nl_2, nl_0, nl_4, nl_3, Nat.reduceAdd, Nat.reduceLT]) (by decide) (by decide) (And.intro (Nat.lt_add_right _ hk) trivial) (And.intro (Nat.lt_add_right _ hk) trivial) (Nat.le_add_right _ _) ?_
  refine wk_putRk wcf_X8_18 (wg_da dt_X8_init 13 rfl) hk (Nat.le_of_ble_eq_true rfl) (Nat.add_lt_add_left (by simp only [List.length_append, List.length_cons, List.length_nil, nl_9, nl_2, nl_0, nl_4, nl_3, Nat.reduceAdd, Nat.reduceLT]) _) ?_
  refine wk_aload_n (wg_da dt_X8_init 14 rfl) rfl ?_
  refine wk_bipush (16 : Int32) (wg_da dt_X8_init 15 rfl) (by decide) ?_
  refine wk_newaK 16 3 (wg_da dt_X8_init 16 rfl) wq_arr (by decide) (by decide) (by decide) (by simp only [List.length_append, List.length_cons, List.length_nil, nl_9, nl_2, nl_0, nl_4, nl_3, Nat.reduceAdd, Nat.reduceLT]) (by decide) (by decide) (And.intro (Nat.lt_add_right _ hk) trivial) (And.intro (Nat.lt_add_right _ hk) trivial) (Nat.le_add_right _ _) ?_
  refine wk_putRk wcf_X8_21 (wg_da dt_X8_init 17 rfl) hk (Nat.le_of_ble_eq_true rfl) (Nat.add_lt_add_left (by simp only [List.length_append, List.length_cons, List.length_nil, nl_9, nl_2, nl_0, nl_4, nl_3, Nat.reduceAdd, Nat.reduceLT]) _) ?_
  refine wk_aload_n (wg_da dt_X8_init 18 rfl) rfl ?_
  refine wk_bipush (16 : Int32) (wg_da dt_X8_init 19 rfl) (by decide) ?_
  refine wk_newaK 16 4 (wg_da dt_X8_init 20 rfl) wq_arr (by decide) (by decide) (by decide) (by simp only [List.length_append, List.length_cons, List.length_nil, nl_9, nl_2, nl_0, nl_4, nl_3, Nat.reduceAdd, Nat.reduceLT]) (by decide) (by decide) (And.intro (Nat.lt_add_right _ hk) trivial) (And.intro (Nat.lt_add_right _ hk) trivial) (Nat.le_add_right _ _) ?_
  refine wk_putRk wcf_X8_24 (wg_da dt_X8_init 21 rfl) hk (Nat.le_of_ble_eq_true rfl) (Nat.add_lt_add_left (by simp only [List.length_append, List.length_cons, List.length_nil, nl_9, nl_2, nl_0, nl_4, nl_3, Nat.reduceAdd, Nat.reduceLT]) _) ?_
  refine wk_aload_n (wg_da dt_X8_init 22 rfl) rfl ?_
  refine wk_bipush (20 : Int32) (wg_da dt_X8_init 23 rfl) (by decide) ?_
  refine wk_newaK 20 5 (wg_da dt_X8_init 24 rfl) wq_arr (by decide) (by decide) (by decide) (by simp only [List.length_append, List.length_cons, List.length_nil, nl_9, nl_2, nl_0, nl_4, nl_3, Nat.reduceAdd, Nat.reduceLT]) (by decide) (by decide) (And.intro (Nat.lt_add_right _ hk) trivial) (And.intro (Nat.lt_add_right _ hk) trivial) (Nat.le_add_right _ _) ?_
  refine wk_putRk wcf_X8_27 (wg_da dt_X8_init 25 rfl) hk (Nat.le_of_ble_eq_true rfl) (Nat.add_lt_add_left (by simp only [List.length_append, List.length_cons, List.length_nil, nl_9, nl_2, nl_0, nl_4, nl_3, Nat.reduceAdd, Nat.reduceLT]) _) ?_
  refine wk_aload_n (wg_da dt_X8_init 26 rfl) rfl ?_
  refine wk_bipush (7 : Int32) (wg_da dt_X8_init 27 rfl) (by decide) ?_
  refine wk_newaK 7 6 (wg_da dt_X8_init 28 rfl) wq_arr (by decide) (by decide) (by decide) (by simp only [List.length_append, List.length_cons, List.length_nil, nl_9, nl_2, nl_0, nl_4, nl_3, Nat.reduceAdd, Nat.reduceLT]) (by decide) (by decide) (And.intro (Nat.lt_add_right _ hk) trivial) (And.intro (Nat.lt_add_right _ hk) trivial) (Nat.le_add_right _ _) ?_
  refine wk_putRk wcf_X8_30 (wg_da dt_X8_init 29 rfl) hk (Nat.le_of_ble_eq_true rfl) (Nat.add_lt_add_left (by simp only [List.length_append, List.length_cons, List.length_nil, nl_9, nl_2, nl_0, nl_4, nl_3, Nat.reduceAdd, Nat.reduceLT]) _) ?_
  refine wk_aload_n (wg_da dt_X8_init 30 rfl) rfl ?_
  refine wk_bipush (7 : Int32) (wg_da dt_X8_init 31 rfl) (by decide) ?_
  refine wk_newaK 7 7 (wg_da dt_X8_init 32 rfl) wq_arr (by decide) (by decide) (by decide) (by simp only [List.length_append, List.length_cons, List.length_nil, nl_9, nl_2, nl_0, nl_4, nl_3, Nat.reduceAdd, Nat.reduceLT]) (by decide) (by decide) (And.intro (Nat.lt_add_right _ hk) trivial) (And.intro (Nat.lt_add_right _ hk) trivial) (Nat.le_add_right _ _) ?_
  refine wk_putRk wcf_X8_33 (wg_da dt_X8_init 33 rfl) hk (Nat.le_of_ble_eq_true rfl) (Nat.add_lt_add_left (by simp only [List.length_append, List.length_cons, List.length_nil, nl_9, nl_2, nl_0, nl_4, nl_3, Nat.reduceAdd, Nat.reduceLT]) _) ?_
  refine wk_aload_n (wg_da dt_X8_init 34 rfl) rfl ?_
  refine wk_bipush (14 : Int32) (wg_da dt_X8_init 35 rfl) (by decide) ?_
  refine wk_newaK 14 8 (wg_da dt_X8_init 36 rfl) wq_arr (by decide) (by decide) (by decide) (by simp only [List.length_append, List.length_cons, List.length_nil, nl_9, nl_2, nl_0, nl_4, nl_3, Nat.reduceAdd, Nat.reduceLT]) (by decide) (by decide) (And.intro (Nat.lt_add_right _ hk) trivial) (And.intro (Nat.lt_add_right _ hk) trivial) (Nat.le_add_right _ _) ?_
  refine wk_putRk wcf_X8_36 (wg_da dt_X8_init 37 rfl) hk (Nat.le_of_ble_eq_true rfl) (Nat.add_lt_add_left (by simp only [List.length_append, List.length_cons, List.length_nil, nl_9, nl_2, nl_0, nl_4, nl_3, Nat.reduceAdd, Nat.reduceLT]) _) ?_
  exact wk_ret (wg_da dt_X8_init 38 rfl) (by decide) (by decide)
def ob_10 (b : Nat) : wc_X := (12, 0, ((((((((wc_df 10).set 0 (.inr (some (b + 0)))).set 1 (.inr (some (b + 20)))).set 2 (.inr (some (b + 25)))).set 3 (.inr (some (b + 33)))).set 4 (.inr (some (b + 38)))).set 5 (.inr (some (b + 43)))).set 6 (.inr (some (b + 48)))))
def nw_10 (b : Nat) : wc_W := (((((((((((((([] ++ [ob_0 (b + 1)]) ++ nw_0 (b + 1)) ++ [ob_4 (b + 21) 150]) ++ nw_4 (b + 21) 150) ++ [ob_3 (b + 26)]) ++ nw_3 (b + 26)) ++ [ob_4 (b + 34) 16]) ++ nw_4 (b + 34) 16) ++ [ob_4 (b + 39) 16]) ++ nw_4 (b + 39) 16) ++ [ob_4 (b + 44) 16]) ++ nw_4 (b + 44) 16) ++ [ob_8 (b + 49)]) ++ nw_8 (b + 49))
theorem nl_10 {b : Nat} : (nw_10 b).length = 58 := by simp only [nw_10, List.length_append, List.length_cons, List.length_nil, nl_9, nl_2, nl_0, nl_4, nl_3, nl_8, Nat.reduceAdd]
abbrev rm_X10_init : Room := { frames := 3, cells := 58, slots := 4598, locals := 52 }
def tb_X10_init : List (Nat × Instr × Nat) := [(0, .aload_n 0, 1), (1, .invokespecial 3, 3), (4, .aload_n 0, 1), (5, .new 9, 3), (8, .dup, 1), (9, .invokespecial 11, 3), (12, .putfield 12, 3), (15, .aload_n 0, 1), (16, .new 18, 3), (19, .dup, 1), (20, .sipush 150, 3), (23, .invokespecial 20, 3), (26, .putfield 23, 3), (29, .aload_n 0, 1), (30, .new 27, 3), (33, .dup, 1), (34, .invokespecial 29, 3), (37, .putfield 30, 3), (40, .aload_n 0, 1), (41, .new 18, 3), (44, .dup, 1), (45, .bipush 16, 2), (47, .invokespecial 20, 3), (50, .putfield 34, 3), (53, .aload_n 0, 1), (54, .new 18, 3), (57, .dup, 1), (58, .bipush 16, 2), (60, .invokespecial 20, 3), (63, .putfield 37, 3), (66, .aload_n 0, 1), (67, .new 18, 3), (70, .dup, 1), (71, .bipush 16, 2), (73, .invokespecial 20, 3), (76, .putfield 40, 3), (79, .aload_n 0, 1), (80, .new 43, 3), (83, .dup, 1), (84, .invokespecial 45, 3), (87, .putfield 46, 3), (90, .return_, 1)]
theorem dt_X10_init : wg_dc cX10_init tb_X10_init := by unfold wg_dc; decide +kernel
set_option maxHeartbeats 40000000 in
set_option maxRecDepth 40000 in
theorem ct_10 (l : Launch) (F : wc_F) (w : wc_W) (k : Nat) (hw : w[k]? = some (12, 0, wc_df 10)) (b : Nat) (hb : w.length = b) : wc_MG l F yX10_init cX10_init 1 rm_X10_init 58 4598 [.ref k] w (wc_K w k (ob_10 b) (nw_10 b)) := by
  subst hb
  have hk : k < w.length := (List.getElem?_eq_some_iff.mp hw).1
  refine wc_met [.ref k] (by decide) rfl (Nat.le_of_ble_eq_true rfl) (fun ad0 => ?_)
  have e0 : w = wc_K w k (12, 0, wc_df 10) [] := by
    apply List.ext_getElem?
    intro j
    rw [wc_K, List.append_nil, List.getElem?_set]
    split
    · next h => subst h; first | (rw [if_pos hk]; exact hw) | exact hw
    · rfl
  suffices h9 : wc_G l F "WornWigs$World" cX10_init 1 rm_X10_init 58 4598 w.length ad0 (wc_K w k (ob_10 w.length) (nw_10 w.length)) 0 [.ref k] [] (wc_K w k (12, 0, wc_df 10) []) 0 0 by
    rw [← e0] at h9; exact h9
  refine wk_aload_n (wg_da dt_X10_init 0 rfl) rfl ?_
  refine wk_obj (wg_da dt_X10_init 1 rfl) ⟨wq_1_35, wq_1_28, wq_1_29⟩ (by decide) (by decide) ?_
  refine wk_aload_n (wg_da dt_X10_init 2 rfl) rfl ?_
  refine wk_newK 0 wc_0 (wg_da dt_X10_init 3 rfl) ⟨wq_1_36, wq_1_37, wq_1_3⟩ (wc_d0) (wc_e0) (by simp only [List.length_append, List.length_cons, List.length_nil, nl_9, nl_2, nl_0, nl_4, nl_3, nl_8, Nat.reduceAdd, Nat.reduceLT]) (by decide) (by decide) (And.intro (Nat.lt_add_right _ hk) trivial) (And.intro (Nat.lt_add_right _ hk) trivial) (Nat.le_add_right _ _) ?_
  refine wk_dup (wg_da dt_X10_init 4 rfl) ?_
  refine wk_callNL 0 1 [] (wg_da dt_X10_init 5 rfl) ⟨List.mem_of_getElem? (i := 1) rfl, wq_1_39⟩ rfl wy_X0_init (by simp only [List.length_append, List.length_cons, List.length_nil, nl_9, nl_2, nl_0, nl_4, nl_3, nl_8, Nat.reduceAdd, Nat.reduceLT]) rfl (ct_0 l F _ _ (wc_K_n (wc_last (by simp only [List.length_append, List.length_cons, List.length_nil, nl_9, nl_2, nl_0, nl_4, nl_3, nl_8, Nat.reduceAdd, Nat.reduceLT]))) (w.length + 1) (by rw [wc_K_len]; exact congrArg _ (by simp only [List.length_append, List.length_cons, List.length_nil, nl_9, nl_2, nl_0, nl_4, nl_3, nl_8, Nat.reduceAdd, Nat.reduceLT])) ) rfl [.ref (w.length + 0), .ref k] rfl (Nat.le_of_ble_eq_true rfl) ⟨rfl, rfl, by decide, by decide, by decide, by decide⟩ (And.intro (Nat.lt_add_right _ hk) trivial) (And.intro (Nat.add_lt_add_left (Nat.le_of_ble_eq_true rfl) _) (And.intro (Nat.lt_add_right _ hk) trivial)) (Nat.le_add_right _ _) ?_
  refine wk_putRk wcf_X10_12 (wg_da dt_X10_init 6 rfl) hk (Nat.le_of_ble_eq_true rfl) (Nat.add_lt_add_left (by simp only [List.length_append, List.length_cons, List.length_nil, nl_9, nl_2, nl_0, nl_4, nl_3, nl_8, Nat.reduceAdd, Nat.reduceLT]) _) ?_
  refine wk_aload_n (wg_da dt_X10_init 7 rfl) rfl ?_
  refine wk_newK 20 wc_4 (wg_da dt_X10_init 8 rfl) ⟨wq_1_195, wq_1_196, wq_1_6⟩ (wc_d4) (wc_e4) (by simp only [List.length_append, List.length_cons, List.length_nil, nl_9, nl_2, nl_0, nl_4, nl_3, nl_8, Nat.reduceAdd, Nat.reduceLT]) (by decide) (by decide) (And.intro (Nat.lt_add_right _ hk) trivial) (And.intro (Nat.lt_add_right _ hk) trivial) (Nat.le_add_right _ _) ?_
  refine wk_dup (wg_da dt_X10_init 9 rfl) ?_
  refine wk_sipush (150 : Int32) (wg_da dt_X10_init 10 rfl) (by decide) ?_
  refine wk_callIL 20 21 [.int (150 : Int32)] (wg_da dt_X10_init 11 rfl) ⟨wq_1_197, wq_1_198⟩ rfl wy_X4_init (by simp only [List.length_append, List.length_cons, List.length_nil, nl_9, nl_2, nl_0, nl_4, nl_3, nl_8, Nat.reduceAdd, Nat.reduceLT]) rfl (ct_4 l F _ _ (wc_K_n (wc_last (by simp only [List.length_append, List.length_cons, List.length_nil, nl_9, nl_2, nl_0, nl_4, nl_3, nl_8, Nat.reduceAdd, Nat.reduceLT]))) (w.length + 21) (by rw [wc_K_len]; exact congrArg _ (by simp only [List.length_append, List.length_cons, List.length_nil, nl_9, nl_2, nl_0, nl_4, nl_3, nl_8, Nat.reduceAdd, Nat.reduceLT])) (150 : Int32) 150 (by decide) (by decide) (by decide) (by decide) (by decide)) rfl [.ref (w.length + 20), .ref k] rfl (Nat.le_of_ble_eq_true rfl) ⟨rfl, rfl, by decide, by decide, by decide, by decide⟩ (And.intro (Nat.lt_add_right _ hk) trivial) (And.intro (Nat.add_lt_add_left (Nat.le_of_ble_eq_true rfl) _) (And.intro (Nat.lt_add_right _ hk) trivial)) (Nat.le_add_right _ _) ?_
  refine wk_putRk wcf_X10_23 (wg_da dt_X10_init 12 rfl) hk (Nat.le_of_ble_eq_true rfl) (Nat.add_lt_add_left (by simp only [List.length_append, List.length_cons, List.length_nil, nl_9, nl_2, nl_0, nl_4, nl_3, nl_8, Nat.reduceAdd, Nat.reduceLT]) _) ?_
  refine wk_aload_n (wg_da dt_X10_init 13 rfl) rfl ?_
  refine wk_newK 25 wc_3 (wg_da dt_X10_init 14 rfl) ⟨wq_1_234, wq_1_235, wq_1_8⟩ (wc_d3) (wc_e3) (by simp only [List.length_append, List.length_cons, List.length_nil, nl_9, nl_2, nl_0, nl_4, nl_3, nl_8, Nat.reduceAdd, Nat.reduceLT]) (by decide) (by decide) (And.intro (Nat.lt_add_right _ hk) trivial) (And.intro (Nat.lt_add_right _ hk) trivial) (Nat.le_add_right _ _) ?_
  refine wk_dup (wg_da dt_X10_init 15 rfl) ?_
  refine wk_callNL 25 26 [] (wg_da dt_X10_init 16 rfl) ⟨List.mem_of_getElem? (i := 4) rfl, wq_1_237⟩ rfl wy_X3_init (by simp only [List.length_append, List.length_cons, List.length_nil, nl_9, nl_2, nl_0, nl_4, nl_3, nl_8, Nat.reduceAdd, Nat.reduceLT]) rfl (ct_3 l F _ _ (wc_K_n (wc_last (by simp only [List.length_append, List.length_cons, List.length_nil, nl_9, nl_2, nl_0, nl_4, nl_3, nl_8, Nat.reduceAdd, Nat.reduceLT]))) (w.length + 26) (by rw [wc_K_len]; exact congrArg _ (by simp only [List.length_append, List.length_cons, List.length_nil, nl_9, nl_2, nl_0, nl_4, nl_3, nl_8, Nat.reduceAdd, Nat.reduceLT])) ) rfl [.ref (w.length + 25), .ref k] rfl (Nat.le_of_ble_eq_true rfl) ⟨rfl, rfl, by decide, by decide, by decide, by decide⟩ (And.intro (Nat.lt_add_right _ hk) trivial) (And.intro (Nat.add_lt_add_left (Nat.le_of_ble_eq_true rfl) _) (And.intro (Nat.lt_add_right _ hk) trivial)) (Nat.le_add_right _ _) ?_
  refine wk_putRk wcf_X10_30 (wg_da dt_X10_init 17 rfl) hk (Nat.le_of_ble_eq_true rfl) (Nat.add_lt_add_left (by simp only [List.length_append, List.length_cons, List.length_nil, nl_9, nl_2, nl_0, nl_4, nl_3, nl_8, Nat.reduceAdd, Nat.reduceLT]) _) ?_
  refine wk_aload_n (wg_da dt_X10_init 18 rfl) rfl ?_
  refine wk_newK 33 wc_4 (wg_da dt_X10_init 19 rfl) ⟨wq_1_195, wq_1_196, wq_1_6⟩ (wc_d4) (wc_e4) (by simp only [List.length_append, List.length_cons, List.length_nil, nl_9, nl_2, nl_0, nl_4, nl_3, nl_8, Nat.reduceAdd, Nat.reduceLT]) (by decide) (by decide) (And.intro (Nat.lt_add_right _ hk) trivial) (And.intro (Nat.lt_add_right _ hk) trivial) (Nat.le_add_right _ _) ?_
  refine wk_dup (wg_da dt_X10_init 20 rfl) ?_
  refine wk_bipush (16 : Int32) (wg_da dt_X10_init 21 rfl) (by decide) ?_
  refine wk_callIL 33 34 [.int (16 : Int32)] (wg_da dt_X10_init 22 rfl) ⟨wq_1_197, wq_1_198⟩ rfl wy_X4_init (by simp only [List.length_append, List.length_cons, List.length_nil, nl_9, nl_2, nl_0, nl_4, nl_3, nl_8, Nat.reduceAdd, Nat.reduceLT]) rfl (ct_4 l F _ _ (wc_K_n (wc_last (by simp only [List.length_append, List.length_cons, List.length_nil, nl_9, nl_2, nl_0, nl_4, nl_3, nl_8, Nat.reduceAdd, Nat.reduceLT]))) (w.length + 34) (by rw [wc_K_len]; exact congrArg _ (by simp only [List.length_append, List.length_cons, List.length_nil, nl_9, nl_2, nl_0, nl_4, nl_3, nl_8, Nat.reduceAdd, Nat.reduceLT])) (16 : Int32) 16 (by decide) (by decide) (by decide) (by decide) (by decide)) rfl [.ref (w.length + 33), .ref k] rfl (Nat.le_of_ble_eq_true rfl) ⟨rfl, rfl, by decide, by decide, by decide, by decide⟩ (And.intro (Nat.lt_add_right _ hk) trivial) (And.intro (Nat.add_lt_add_left (Nat.le_of_ble_eq_true rfl) _) (And.intro (Nat.lt_add_right _ hk) trivial)) (Nat.le_add_right _ _) ?_
  refine wk_putRk wcf_X10_34 (wg_da dt_X10_init 23 rfl) hk (Nat.le_of_ble_eq_true rfl) (Nat.add_lt_add_left (by simp only [List.length_append, List.length_cons, List.length_nil, nl_9, nl_2, nl_0, nl_4, nl_3, nl_8, Nat.reduceAdd, Nat.reduceLT]) _) ?_
  refine wk_aload_n (wg_da dt_X10_init 24 rfl) rfl ?_
  refine wk_newK 38 wc_4 (wg_da dt_X10_init 25 rfl) ⟨wq_1_195, wq_1_196, wq_1_6⟩ (wc_d4) (wc_e4) (by simp only [List.length_append, List.length_cons, List.length_nil, nl_9, nl_2, nl_0, nl_4, nl_3, nl_8, Nat.reduceAdd, Nat.reduceLT]) (by decide) (by decide) (And.intro (Nat.lt_add_right _ hk) trivial) (And.intro (Nat.lt_add_right _ hk) trivial) (Nat.le_add_right _ _) ?_
  refine wk_dup (wg_da dt_X10_init 26 rfl) ?_
  refine wk_bipush (16 : Int32) (wg_da dt_X10_init 27 rfl) (by decide) ?_
  refine wk_callIL 38 39 [.int (16 : Int32)] (wg_da dt_X10_init 28 rfl) ⟨wq_1_197, wq_1_198⟩ rfl wy_X4_init (by simp only [List.length_append, List.length_cons, List.length_nil, nl_9, nl_2, nl_0, nl_4, nl_3, nl_8, Nat.reduceAdd, Nat.reduceLT]) rfl (ct_4 l F _ _ (wc_K_n (wc_last (by simp only [List.length_append, List.length_cons, List.length_nil, nl_9, nl_2, nl_0, nl_4, nl_3, nl_8, Nat.reduceAdd, Nat.reduceLT]))) (w.length + 39) (by rw [wc_K_len]; exact congrArg _ (by simp only [List.length_append, List.length_cons, List.length_nil, nl_9, nl_2, nl_0, nl_4, nl_3, nl_8, Nat.reduceAdd, Nat.reduceLT])) (16 : Int32) 16 (by decide) (by decide) (by decide) (by decide) (by decide)) rfl [.ref (w.length + 38), .ref k] rfl (Nat.le_of_ble_eq_true rfl) ⟨rfl, rfl, by decide, by decide, by decide, by decide⟩ (And.intro (Nat.lt_add_right _ hk) trivial) (And.intro (Nat.add_lt_add_left (Nat.le_of_ble_eq_true rfl) _) (And.intro (Nat.lt_add_right _ hk) trivial)) (Nat.le_add_right _ _) ?_
  refine wk_putRk wcf_X10_37 (wg_da dt_X10_init 29 rfl) hk (Nat.le_of_ble_eq_true rfl) (Nat.add_lt_add_left (by simp only [List.length_append, List.length_cons, List.length_nil, nl_9, nl_2, nl_0, nl_4, nl_3, nl_8, Nat.reduceAdd, Nat.reduceLT]) _) ?_
  refine wk_aload_n (wg_da dt_X10_init 30 rfl) rfl ?_
  refine wk_newK 43 wc_4 (wg_da dt_X10_init 31 rfl) ⟨wq_1_195, wq_1_196, wq_1_6⟩ (wc_d4) (wc_e4) (by simp only [List.length_append, List.length_cons, List.length_nil, nl_9, nl_2, nl_0, nl_4, nl_3, nl_8, Nat.reduceAdd, Nat.reduceLT]) (by decide) (by decide) (And.intro (Nat.lt_add_right _ hk) trivial) (And.intro (Nat.lt_add_right _ hk) trivial) (Nat.le_add_right _ _) ?_
  refine wk_dup (wg_da dt_X10_init 32 rfl) ?_
  refine wk_bipush (16 : Int32) (wg_da dt_X10_init 33 rfl) (by decide) ?_
  refine wk_callIL 43 44 [.int (16 : Int32)] (wg_da dt_X10_init 34 rfl) ⟨wq_1_197, wq_1_198⟩ rfl wy_X4_init (by simp only [List.length_append, List.length_cons, List.length_nil, nl_9, nl_2, nl_0, nl_4, nl_3, nl_8, Nat.reduceAdd, Nat.reduceLT]) rfl (ct_4 l F _ _ (wc_K_n (wc_last (by simp only [List.length_append, List.length_cons, List.length_nil, nl_9, nl_2, nl_0, nl_4, nl_3, nl_8, Nat.reduceAdd, Nat.reduceLT]))) (w.length + 44) (by rw [wc_K_len]; exact congrArg _ (by simp only [List.length_append, List.length_cons, List.length_nil, nl_9, nl_2, nl_0, nl_4, nl_3, nl_8, Nat.reduceAdd, Nat.reduceLT])) (16 : Int32) 16 (by decide) (by decide) (by decide) (by decide) (by decide)) rfl [.ref (w.length + 43), .ref k] rfl (Nat.le_of_ble_eq_true rfl) ⟨rfl, rfl, by decide, by decide, by decide, by decide⟩ (And.intro (Nat.lt_add_right _ hk) trivial) (And.intro (Nat.add_lt_add_left (Nat.le_of_ble_eq_true rfl) _) (And.intro (Nat.lt_add_right _ hk) trivial)) (Nat.le_add_right _ _) ?_
  refine wk_putRk wcf_X10_40 (wg_da dt_X10_init 35 rfl) hk (Nat.le_of_ble_eq_true rfl) (Nat.add_lt_add_left (by simp only [List.length_append, List.length_cons, List.length_nil, nl_9, nl_2, nl_0, nl_4, nl_3, nl_8, Nat.reduceAdd, Nat.reduceLT]) _) ?_
  refine wk_aload_n (wg_da dt_X10_init 36 rfl) rfl ?_
  refine wk_newK 48 wc_8 (wg_da dt_X10_init 37 rfl) ⟨wq_2_35, wq_2_36, wq_1_9⟩ (wc_d8) (wc_e8) (by simp only [List.length_append, List.length_cons, List.length_nil, nl_9, nl_2, nl_0, nl_4, nl_3, nl_8, Nat.reduceAdd, Nat.reduceLT]) (by decide) (by decide) (And.intro (Nat.lt_add_right _ hk) trivial) (And.intro (Nat.lt_add_right _ hk) trivial) (Nat.le_add_right _ _) ?_
  refine wk_dup (wg_da dt_X10_init 38 rfl) ?_
  refine wk_callNL 48 49 [] (wg_da dt_X10_init 39 rfl) ⟨List.mem_of_getElem? (i := 5) rfl, wq_2_38⟩ rfl wy_X8_init (by simp only [List.length_append, List.length_cons, List.length_nil, nl_9, nl_2, nl_0, nl_4, nl_3, nl_8, Nat.reduceAdd, Nat.reduceLT]) rfl (ct_8 l F _ _ (wc_K_n (wc_last (by simp only [List.length_append, List.length_cons, List.length_nil, nl_9, nl_2, nl_0, nl_4, nl_3, nl_8, Nat.reduceAdd, Nat.reduceLT]))) (w.length + 49) (by rw [wc_K_len]; exact congrArg _ (by simp only [List.length_append, List.length_cons, List.length_nil, nl_9, nl_2, nl_0, nl_4, nl_3, nl_8, Nat.reduceAdd, Nat.reduceLT])) ) rfl [.ref (w.length + 48), .ref k] rfl (Nat.le_of_ble_eq_true rfl) ⟨rfl, rfl, by decide, by decide, by decide, by decide⟩ (And.intro (Nat.lt_add_right _ hk) trivial) (And.intro (Nat.add_lt_add_left (Nat.le_of_ble_eq_true rfl) _) (And.intro (Nat.lt_add_right _ hk) trivial)) (Nat.le_add_right _ _) ?_
  refine wk_putRk wcf_X10_46 (wg_da dt_X10_init 40 rfl) hk (Nat.le_of_ble_eq_true rfl) (Nat.add_lt_add_left (by simp only [List.length_append, List.length_cons, List.length_nil, nl_9, nl_2, nl_0, nl_4, nl_3, nl_8, Nat.reduceAdd, Nat.reduceLT]) _) ?_
  exact wk_ret (wg_da dt_X10_init 41 rfl) (by decide) (by decide)

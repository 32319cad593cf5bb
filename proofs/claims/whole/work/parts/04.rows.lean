section WR
variable {l : Launch} {E : wg_E} {S : wg_S} {own : String} {cc : ByteArray} {nL : Nat} {rt : Option FieldType} {R : Room} {r : Option Int32} {σ' : wg_M} {pc : Nat} {L : List (Option Value)} {st : List Value} {σ : wg_M} {z : Int32 × wg_M}

theorem wr_iconst {n : Int} (v : Int32) (hd : decode cc pc = .ok (.iconst n, 1)) (hv : Int32.ofInt n = v) (k : wg_G l E S own cc nL rt R r σ' (pc + 1) L (.int v :: st) σ) : wg_G l E S own cc nL rt R r σ' pc L st σ :=
  fun p e s m args below meth c H locs ls hx hb hml hr hlk ho hts hK hO hP hS hL => lv_iconst hx hb hd hv (k p e s m args below meth c H locs ls hx hb hml hr hlk ho hts hK hO hP hS hL)
theorem wr_bipush {n : Int} (v : Int32) (hd : decode cc pc = .ok (.bipush n, 2)) (hv : (Int8.ofInt n).toInt32 = v) (k : wg_G l E S own cc nL rt R r σ' (pc + 2) L (.int v :: st) σ) : wg_G l E S own cc nL rt R r σ' pc L st σ :=
  fun p e s m args below meth c H locs ls hx hb hml hr hlk ho hts hK hO hP hS hL => lv_bipush hx hb hd hv (k p e s m args below meth c H locs ls hx hb hml hr hlk ho hts hK hO hP hS hL)
theorem wr_sipush {n : Int} (v : Int32) (hd : decode cc pc = .ok (.sipush n, 3)) (hv : (Int16.ofInt n).toInt32 = v) (k : wg_G l E S own cc nL rt R r σ' (pc + 3) L (.int v :: st) σ) : wg_G l E S own cc nL rt R r σ' pc L st σ :=
  fun p e s m args below meth c H locs ls hx hb hml hr hlk ho hts hK hO hP hS hL => lv_sipush hx hb hd hv (k p e s m args below meth c H locs ls hx hb hml hr hlk ho hts hK hO hP hS hL)
theorem wr_ldc {i : Nat} {v : Int32} (hd : decode cc pc = .ok (.ldc i, 2)) (hw : Cond.constant own i v ∈ wg_T) (k : wg_G l E S own cc nL rt R r σ' (pc + 2) L (.int v :: st) σ) : wg_G l E S own cc nL rt R r σ' pc L st σ :=
  fun p e s m args below meth c H locs ls hx hb hml hr hlk ho hts hK hO hP hS hL => lv_ldc hx hb ho (hts _ hw) hd (k p e s m args below meth c H locs ls hx hb hml hr hlk ho hts hK hO hP hS hL)
theorem wr_ldcw {i : Nat} {v : Int32} (hd : decode cc pc = .ok (.ldc_w i, 3)) (hw : Cond.constant own i v ∈ wg_T) (k : wg_G l E S own cc nL rt R r σ' (pc + 3) L (.int v :: st) σ) : wg_G l E S own cc nL rt R r σ' pc L st σ :=
  fun p e s m args below meth c H locs ls hx hb hml hr hlk ho hts hK hO hP hS hL => lv_ldcw hx hb ho (hts _ hw) hd (k p e s m args below meth c H locs ls hx hb hml hr hlk ho hts hK hO hP hS hL)
theorem wr_iload_n {i : Fin 4} {x : Int32} (hd : decode cc pc = .ok (.iload_n i, 1)) (hv : L[(i : Nat)]? = some (some (.int x))) (k : wg_G l E S own cc nL rt R r σ' (pc + 1) L (.int x :: st) σ) : wg_G l E S own cc nL rt R r σ' pc L st σ :=
  fun p e s m args below meth c H locs ls hx hb hml hr hlk ho hts hK hO hP hS hL => lv_iload_n hx hb hd rfl (hL.at hv) (k p e s m args below meth c H locs ls hx hb hml hr hlk ho hts hK hO hP hS hL)
theorem wr_iload {i : Nat} {x : Int32} (hd : decode cc pc = .ok (.iload i, 2)) (hv : L[i]? = some (some (.int x))) (k : wg_G l E S own cc nL rt R r σ' (pc + 2) L (.int x :: st) σ) : wg_G l E S own cc nL rt R r σ' pc L st σ :=
  fun p e s m args below meth c H locs ls hx hb hml hr hlk ho hts hK hO hP hS hL => lv_iload hx hb hd (hL.at hv) (k p e s m args below meth c H locs ls hx hb hml hr hlk ho hts hK hO hP hS hL)
theorem wr_aload_n {i : Fin 4} {x : Nat} (hd : decode cc pc = .ok (.aload_n i, 1)) (hv : L[(i : Nat)]? = some (some (.ref x))) (k : wg_G l E S own cc nL rt R r σ' (pc + 1) L (.ref x :: st) σ) : wg_G l E S own cc nL rt R r σ' pc L st σ :=
  fun p e s m args below meth c H locs ls hx hb hml hr hlk ho hts hK hO hP hS hL => lv_aload_n hx hb hd rfl (hL.at hv) (k p e s m args below meth c H locs ls hx hb hml hr hlk ho hts hK hO hP hS hL)
theorem wr_aload {i : Nat} {x : Nat} (hd : decode cc pc = .ok (.aload i, 2)) (hv : L[i]? = some (some (.ref x))) (k : wg_G l E S own cc nL rt R r σ' (pc + 2) L (.ref x :: st) σ) : wg_G l E S own cc nL rt R r σ' pc L st σ :=
  fun p e s m args below meth c H locs ls hx hb hml hr hlk ho hts hK hO hP hS hL => lv_aload hx hb hd (hL.at hv) (k p e s m args below meth c H locs ls hx hb hml hr hlk ho hts hK hO hP hS hL)
theorem wr_istore_n {i : Fin 4} {x : Int32} (hd : decode cc pc = .ok (.istore_n i, 1)) (hn : (i : Nat) < nL) (k : wg_G l E S own cc nL rt R r σ' (pc + 1) (L.set i (some (.int x))) st σ) : wg_G l E S own cc nL rt R r σ' pc L (.int x :: st) σ :=
  fun p e s m args below meth c H locs ls hx hb hml hr hlk ho hts hK hO hP hS hL => lv_istore_n hx hb hd rfl hL hn rfl (fun ls2 hl2 => k p e s m args below meth c H locs ls2 hx hb hml hr hlk ho hts hK hO hP hS (wg_LH.st hl2))
theorem wr_istore {i : Nat} {x : Int32} (hd : decode cc pc = .ok (.istore i, 2)) (hn : i < nL) (k : wg_G l E S own cc nL rt R r σ' (pc + 2) (L.set i (some (.int x))) st σ) : wg_G l E S own cc nL rt R r σ' pc L (.int x :: st) σ :=
  fun p e s m args below meth c H locs ls hx hb hml hr hlk ho hts hK hO hP hS hL => lv_istore hx hb hd hL hn rfl (fun ls2 hl2 => k p e s m args below meth c H locs ls2 hx hb hml hr hlk ho hts hK hO hP hS (wg_LH.st hl2))
theorem wr_astore_n {i : Fin 4} {x : Nat} (hd : decode cc pc = .ok (.astore_n i, 1)) (hn : (i : Nat) < nL) (k : wg_G l E S own cc nL rt R r σ' (pc + 1) (L.set i (some (.ref x))) st σ) : wg_G l E S own cc nL rt R r σ' pc L (.ref x :: st) σ :=
  fun p e s m args below meth c H locs ls hx hb hml hr hlk ho hts hK hO hP hS hL => lv_astore_n hx hb hd rfl hL hn rfl (fun ls2 hl2 => k p e s m args below meth c H locs ls2 hx hb hml hr hlk ho hts hK hO hP hS (wg_LH.st hl2))
theorem wr_astore {i : Nat} {x : Nat} (hd : decode cc pc = .ok (.astore i, 2)) (hn : i < nL) (k : wg_G l E S own cc nL rt R r σ' (pc + 2) (L.set i (some (.ref x))) st σ) : wg_G l E S own cc nL rt R r σ' pc L (.ref x :: st) σ :=
  fun p e s m args below meth c H locs ls hx hb hml hr hlk ho hts hK hO hP hS hL => lv_astore hx hb hd hL hn rfl (fun ls2 hl2 => k p e s m args below meth c H locs ls2 hx hb hml hr hlk ho hts hK hO hP hS (wg_LH.st hl2))
def wg_let {α : Type} (x : Int32) (κ : Int32 → Option α) : Option α := κ x
theorem wr_let {x : Int32} {κ : Int32 → Option (Int32 × wg_M)} (h : wg_let x κ = some z) (k : ∀ y, κ y = some z → wg_G l E S own cc nL rt R r σ' pc L (.int y :: st) σ) : wg_G l E S own cc nL rt R r σ' pc L (.int x :: st) σ := k x h
theorem wr_iinc {i : Nat} {n : Int} {x c0 : Int32} {κ : Int32 → Option (Int32 × wg_M)} (hd : decode cc pc = .ok (.iinc i n, 3)) (hv : L[i]? = some (some (.int x))) (hn : i < nL) (hc : Int32.ofInt n = c0) (h : wg_let (x + c0) κ = some z) (k : ∀ y, κ y = some z → wg_G l E S own cc nL rt R r σ' (pc + 3) (L.set i (some (.int y))) st σ) : wg_G l E S own cc nL rt R r σ' pc L st σ := by
  intro p e s m args below meth c H locs ls hx hb hml hr hlk ho hts hK hO hP hS hL
  obtain ⟨q, hq⟩ := List.mem_iff_getElem?.mp (wg_as_mem (E := E) (L := L) (q := (i, .int x)) |>.mpr ⟨.int x, hv, rfl⟩)
  exact lv_iinc (v := x + c0) hx hb hd hL hq (by rw [hc]) hn rfl (fun ls2 hl2 => k _ h p e s m args below meth c H locs ls2 hx hb hml hr hlk ho hts hK hO hP hS (wg_LH.st (v := .int (x + c0)) hl2))
theorem wr_iadd {x y : Int32} (hd : decode cc pc = .ok (.iadd, 1)) (k : wg_G l E S own cc nL rt R r σ' (pc + 1) L (.int (x + y) :: st) σ) : wg_G l E S own cc nL rt R r σ' pc L (.int y :: .int x :: st) σ :=
  fun p e s m args below meth c H locs ls hx hb hml hr hlk ho hts hK hO hP hS hL => lv_iadd hx hb hd (k p e s m args below meth c H locs ls hx hb hml hr hlk ho hts hK hO hP hS hL)
theorem wr_isub {x y : Int32} (hd : decode cc pc = .ok (.isub, 1)) (k : wg_G l E S own cc nL rt R r σ' (pc + 1) L (.int (x - y) :: st) σ) : wg_G l E S own cc nL rt R r σ' pc L (.int y :: .int x :: st) σ :=
  fun p e s m args below meth c H locs ls hx hb hml hr hlk ho hts hK hO hP hS hL => lv_isub hx hb hd (k p e s m args below meth c H locs ls hx hb hml hr hlk ho hts hK hO hP hS hL)
theorem wr_imul {x y : Int32} (hd : decode cc pc = .ok (.imul, 1)) (k : wg_G l E S own cc nL rt R r σ' (pc + 1) L (.int (x * y) :: st) σ) : wg_G l E S own cc nL rt R r σ' pc L (.int y :: .int x :: st) σ :=
  fun p e s m args below meth c H locs ls hx hb hml hr hlk ho hts hK hO hP hS hL => lv_imul hx hb hd (k p e s m args below meth c H locs ls hx hb hml hr hlk ho hts hK hO hP hS hL)
theorem wr_iand {x y : Int32} (hd : decode cc pc = .ok (.iand, 1)) (k : wg_G l E S own cc nL rt R r σ' (pc + 1) L (.int (x &&& y) :: st) σ) : wg_G l E S own cc nL rt R r σ' pc L (.int y :: .int x :: st) σ :=
  fun p e s m args below meth c H locs ls hx hb hml hr hlk ho hts hK hO hP hS hL => lv_iand hx hb hd (k p e s m args below meth c H locs ls hx hb hml hr hlk ho hts hK hO hP hS hL)
theorem wr_ior {x y : Int32} (hd : decode cc pc = .ok (.ior, 1)) (k : wg_G l E S own cc nL rt R r σ' (pc + 1) L (.int (x ||| y) :: st) σ) : wg_G l E S own cc nL rt R r σ' pc L (.int y :: .int x :: st) σ :=
  fun p e s m args below meth c H locs ls hx hb hml hr hlk ho hts hK hO hP hS hL => lv_ior hx hb hd (k p e s m args below meth c H locs ls hx hb hml hr hlk ho hts hK hO hP hS hL)
theorem wr_ixor {x y : Int32} (hd : decode cc pc = .ok (.ixor, 1)) (k : wg_G l E S own cc nL rt R r σ' (pc + 1) L (.int (x ^^^ y) :: st) σ) : wg_G l E S own cc nL rt R r σ' pc L (.int y :: .int x :: st) σ :=
  fun p e s m args below meth c H locs ls hx hb hml hr hlk ho hts hK hO hP hS hL => lv_ixor hx hb hd (k p e s m args below meth c H locs ls hx hb hml hr hlk ho hts hK hO hP hS hL)
theorem wr_ishl {x y : Int32} (hd : decode cc pc = .ok (.ishl, 1)) (k : wg_G l E S own cc nL rt R r σ' (pc + 1) L (.int (x <<< (y &&& 31)) :: st) σ) : wg_G l E S own cc nL rt R r σ' pc L (.int y :: .int x :: st) σ :=
  fun p e s m args below meth c H locs ls hx hb hml hr hlk ho hts hK hO hP hS hL => lv_ishl hx hb hd (k p e s m args below meth c H locs ls hx hb hml hr hlk ho hts hK hO hP hS hL)
theorem wr_ishr {x y : Int32} (hd : decode cc pc = .ok (.ishr, 1)) (k : wg_G l E S own cc nL rt R r σ' (pc + 1) L (.int (x >>> (y &&& 31)) :: st) σ) : wg_G l E S own cc nL rt R r σ' pc L (.int y :: .int x :: st) σ :=
  fun p e s m args below meth c H locs ls hx hb hml hr hlk ho hts hK hO hP hS hL => lv_ishr hx hb hd (k p e s m args below meth c H locs ls hx hb hml hr hlk ho hts hK hO hP hS hL)
def wg_ush (x y : Int32) : Int32 := (x.toUInt32 >>> (y.toUInt32 &&& Int32.toUInt32 31)).toInt32
theorem wr_iushr {x y : Int32} (hd : decode cc pc = .ok (.iushr, 1)) (k : wg_G l E S own cc nL rt R r σ' (pc + 1) L (.int (wg_ush x y) :: st) σ) : wg_G l E S own cc nL rt R r σ' pc L (.int y :: .int x :: st) σ :=
  fun p e s m args below meth c H locs ls hx hb hml hr hlk ho hts hK hO hP hS hL => lv_iushr hx hb hd rfl (k p e s m args below meth c H locs ls hx hb hml hr hlk ho hts hK hO hP hS hL)
theorem wr_ineg {x : Int32} (hd : decode cc pc = .ok (.ineg, 1)) (k : wg_G l E S own cc nL rt R r σ' (pc + 1) L (.int (-x) :: st) σ) : wg_G l E S own cc nL rt R r σ' pc L (.int x :: st) σ :=
  fun p e s m args below meth c H locs ls hx hb hml hr hlk ho hts hK hO hP hS hL => lv_ineg hx hb hd (k p e s m args below meth c H locs ls hx hb hml hr hlk ho hts hK hO hP hS hL)
def wg_dv {α : Type} (x y : Int32) (κ : Int32 → Option α) : Option α := if y = 0 then none else κ (x / y)
def wg_rm {α : Type} (x y : Int32) (κ : Int32 → Option α) : Option α := if y = 0 then none else κ (x - x / y * y)
theorem wr_idiv {x y : Int32} {κ : Int32 → Option (Int32 × wg_M)} (hd : decode cc pc = .ok (.idiv, 1)) (h : wg_dv x y κ = some z) (k : ∀ v, κ v = some z → wg_G l E S own cc nL rt R r σ' (pc + 1) L (.int v :: st) σ) : wg_G l E S own cc nL rt R r σ' pc L (.int y :: .int x :: st) σ := by
  intro p e s m args below meth c H locs ls hx hb hml hr hlk ho hts hK hO hP hS hL
  by_cases hy : y = 0
  · rw [wg_dv, if_pos hy] at h; cases h
  · rw [wg_dv, if_neg hy] at h
    exact lv_idiv hx hb hd hy (k _ h p e s m args below meth c H locs ls hx hb hml hr hlk ho hts hK hO hP hS hL)
theorem wr_irem {x y : Int32} {κ : Int32 → Option (Int32 × wg_M)} (hd : decode cc pc = .ok (.irem, 1)) (h : wg_rm x y κ = some z) (k : ∀ v, κ v = some z → wg_G l E S own cc nL rt R r σ' (pc + 1) L (.int v :: st) σ) : wg_G l E S own cc nL rt R r σ' pc L (.int y :: .int x :: st) σ := by
  intro p e s m args below meth c H locs ls hx hb hml hr hlk ho hts hK hO hP hS hL
  by_cases hy : y = 0
  · rw [wg_rm, if_pos hy] at h; cases h
  · rw [wg_rm, if_neg hy] at h
    exact lv_irem hx hb hd hy (k _ h p e s m args below meth c H locs ls hx hb hml hr hlk ho hts hK hO hP hS hL)
theorem wr_dup {v : Value} (hd : decode cc pc = .ok (.dup, 1)) (k : wg_G l E S own cc nL rt R r σ' (pc + 1) L (v :: v :: st) σ) : wg_G l E S own cc nL rt R r σ' pc L (v :: st) σ :=
  fun p e s m args below meth c H locs ls hx hb hml hr hlk ho hts hK hO hP hS hL => lv_dup hx hb hd (wg_sh_cat E v) (k p e s m args below meth c H locs ls hx hb hml hr hlk ho hts hK hO hP hS hL)
theorem wr_pop {v : Value} (hd : decode cc pc = .ok (.pop, 1)) (k : wg_G l E S own cc nL rt R r σ' (pc + 1) L st σ) : wg_G l E S own cc nL rt R r σ' pc L (v :: st) σ :=
  fun p e s m args below meth c H locs ls hx hb hml hr hlk ho hts hK hO hP hS hL => lv_pop hx hb hd (wg_sh_cat E v) (k p e s m args below meth c H locs ls hx hb hml hr hlk ho hts hK hO hP hS hL)
theorem wr_dup2 {v w : Value} (hd : decode cc pc = .ok (.dup2, 1)) (k : wg_G l E S own cc nL rt R r σ' (pc + 1) L (v :: w :: v :: w :: st) σ) : wg_G l E S own cc nL rt R r σ' pc L (v :: w :: st) σ :=
  fun p e s m args below meth c H locs ls hx hb hml hr hlk ho hts hK hO hP hS hL => lv_dup2_11 hx hb hd (wg_sh_cat E v) (wg_sh_cat E w) (k p e s m args below meth c H locs ls hx hb hml hr hlk ho hts hK hO hP hS hL)
theorem wr_goto {off : Int} (tgt : Nat) (hd : decode cc pc = .ok (.goto off, 3)) (ht : (pc : Int) + off = (tgt : Int)) (k : wg_G l E S own cc nL rt R r σ' tgt L st σ) : wg_G l E S own cc nL rt R r σ' pc L st σ :=
  fun p e s m args below meth c H locs ls hx hb hml hr hlk ho hts hK hO hP hS hL => lv_goto hx hb hd ht (k p e s m args below meth c H locs ls hx hb hml hr hlk ho hts hK hO hP hS hL)
theorem wr_if_eq {x : Int32} {off : Int} {A B : Option (Int32 × wg_M)} (tgt : Nat) (hd : decode cc pc = .ok (.ifCond .eq off, 3)) (ht : (pc : Int) + off = (tgt : Int)) (h : (if x = 0 then A else B) = some z) (kt : A = some z → wg_G l E S own cc nL rt R r σ' tgt L st σ) (kf : B = some z → wg_G l E S own cc nL rt R r σ' (pc + 3) L st σ) : wg_G l E S own cc nL rt R r σ' pc L (.int x :: st) σ :=
  fun p e s m args below meth c H locs ls hx hb hml hr hlk ho hts hK hO hP hS hL => lv_if_eq hx hb hd ht (fun q => kt (by rw [if_pos q] at h; exact h) p e s m args below meth c H locs ls hx hb hml hr hlk ho hts hK hO hP hS hL) (fun q => kf (by rw [if_neg q] at h; exact h) p e s m args below meth c H locs ls hx hb hml hr hlk ho hts hK hO hP hS hL)
theorem wr_if_ne {x : Int32} {off : Int} {A B : Option (Int32 × wg_M)} (tgt : Nat) (hd : decode cc pc = .ok (.ifCond .ne off, 3)) (ht : (pc : Int) + off = (tgt : Int)) (h : (if x = 0 then B else A) = some z) (kf : B = some z → wg_G l E S own cc nL rt R r σ' (pc + 3) L st σ) (kt : A = some z → wg_G l E S own cc nL rt R r σ' tgt L st σ) : wg_G l E S own cc nL rt R r σ' pc L (.int x :: st) σ :=
  fun p e s m args below meth c H locs ls hx hb hml hr hlk ho hts hK hO hP hS hL => lv_if_ne hx hb hd ht (fun q => kt (by rw [if_neg q] at h; exact h) p e s m args below meth c H locs ls hx hb hml hr hlk ho hts hK hO hP hS hL) (fun q => kf (by rw [if_pos q] at h; exact h) p e s m args below meth c H locs ls hx hb hml hr hlk ho hts hK hO hP hS hL)
theorem wr_if_lt {x : Int32} {off : Int} {A B : Option (Int32 × wg_M)} (tgt : Nat) (hd : decode cc pc = .ok (.ifCond .lt off, 3)) (ht : (pc : Int) + off = (tgt : Int)) (h : (if x < 0 then A else B) = some z) (kt : A = some z → wg_G l E S own cc nL rt R r σ' tgt L st σ) (kf : B = some z → wg_G l E S own cc nL rt R r σ' (pc + 3) L st σ) : wg_G l E S own cc nL rt R r σ' pc L (.int x :: st) σ :=
  fun p e s m args below meth c H locs ls hx hb hml hr hlk ho hts hK hO hP hS hL => lv_if_lt hx hb hd ht (fun q => kt (by rw [if_pos q] at h; exact h) p e s m args below meth c H locs ls hx hb hml hr hlk ho hts hK hO hP hS hL) (fun q => kf (by rw [if_neg q] at h; exact h) p e s m args below meth c H locs ls hx hb hml hr hlk ho hts hK hO hP hS hL)
theorem wr_if_ge {x : Int32} {off : Int} {A B : Option (Int32 × wg_M)} (tgt : Nat) (hd : decode cc pc = .ok (.ifCond .ge off, 3)) (ht : (pc : Int) + off = (tgt : Int)) (h : (if 0 ≤ x then A else B) = some z) (kt : A = some z → wg_G l E S own cc nL rt R r σ' tgt L st σ) (kf : B = some z → wg_G l E S own cc nL rt R r σ' (pc + 3) L st σ) : wg_G l E S own cc nL rt R r σ' pc L (.int x :: st) σ :=
  fun p e s m args below meth c H locs ls hx hb hml hr hlk ho hts hK hO hP hS hL => lv_if_ge hx hb hd ht (fun q => kt (by rw [if_pos q] at h; exact h) p e s m args below meth c H locs ls hx hb hml hr hlk ho hts hK hO hP hS hL) (fun q => kf (by rw [if_neg q] at h; exact h) p e s m args below meth c H locs ls hx hb hml hr hlk ho hts hK hO hP hS hL)
theorem wr_if_gt {x : Int32} {off : Int} {A B : Option (Int32 × wg_M)} (tgt : Nat) (hd : decode cc pc = .ok (.ifCond .gt off, 3)) (ht : (pc : Int) + off = (tgt : Int)) (h : (if 0 < x then A else B) = some z) (kt : A = some z → wg_G l E S own cc nL rt R r σ' tgt L st σ) (kf : B = some z → wg_G l E S own cc nL rt R r σ' (pc + 3) L st σ) : wg_G l E S own cc nL rt R r σ' pc L (.int x :: st) σ :=
  fun p e s m args below meth c H locs ls hx hb hml hr hlk ho hts hK hO hP hS hL => lv_if_gt hx hb hd ht (fun q => kt (by rw [if_pos q] at h; exact h) p e s m args below meth c H locs ls hx hb hml hr hlk ho hts hK hO hP hS hL) (fun q => kf (by rw [if_neg q] at h; exact h) p e s m args below meth c H locs ls hx hb hml hr hlk ho hts hK hO hP hS hL)
theorem wr_if_le {x : Int32} {off : Int} {A B : Option (Int32 × wg_M)} (tgt : Nat) (hd : decode cc pc = .ok (.ifCond .le off, 3)) (ht : (pc : Int) + off = (tgt : Int)) (h : (if x ≤ 0 then A else B) = some z) (kt : A = some z → wg_G l E S own cc nL rt R r σ' tgt L st σ) (kf : B = some z → wg_G l E S own cc nL rt R r σ' (pc + 3) L st σ) : wg_G l E S own cc nL rt R r σ' pc L (.int x :: st) σ :=
  fun p e s m args below meth c H locs ls hx hb hml hr hlk ho hts hK hO hP hS hL => lv_if_le hx hb hd ht (fun q => kt (by rw [if_pos q] at h; exact h) p e s m args below meth c H locs ls hx hb hml hr hlk ho hts hK hO hP hS hL) (fun q => kf (by rw [if_neg q] at h; exact h) p e s m args below meth c H locs ls hx hb hml hr hlk ho hts hK hO hP hS hL)
theorem wr_icmp_eq {x y : Int32} {off : Int} {A B : Option (Int32 × wg_M)} (tgt : Nat) (hd : decode cc pc = .ok (.if_icmp .eq off, 3)) (ht : (pc : Int) + off = (tgt : Int)) (h : (if x = y then A else B) = some z) (kt : A = some z → wg_G l E S own cc nL rt R r σ' tgt L st σ) (kf : B = some z → wg_G l E S own cc nL rt R r σ' (pc + 3) L st σ) : wg_G l E S own cc nL rt R r σ' pc L (.int y :: .int x :: st) σ :=
  fun p e s m args below meth c H locs ls hx hb hml hr hlk ho hts hK hO hP hS hL => lv_icmp_eq hx hb hd ht (fun q => kt (by rw [if_pos q] at h; exact h) p e s m args below meth c H locs ls hx hb hml hr hlk ho hts hK hO hP hS hL) (fun q => kf (by rw [if_neg q] at h; exact h) p e s m args below meth c H locs ls hx hb hml hr hlk ho hts hK hO hP hS hL)
theorem wr_icmp_ne {x y : Int32} {off : Int} {A B : Option (Int32 × wg_M)} (tgt : Nat) (hd : decode cc pc = .ok (.if_icmp .ne off, 3)) (ht : (pc : Int) + off = (tgt : Int)) (h : (if x = y then B else A) = some z) (kf : B = some z → wg_G l E S own cc nL rt R r σ' (pc + 3) L st σ) (kt : A = some z → wg_G l E S own cc nL rt R r σ' tgt L st σ) : wg_G l E S own cc nL rt R r σ' pc L (.int y :: .int x :: st) σ :=
  fun p e s m args below meth c H locs ls hx hb hml hr hlk ho hts hK hO hP hS hL => lv_icmp_ne hx hb hd ht (fun q => kt (by rw [if_neg q] at h; exact h) p e s m args below meth c H locs ls hx hb hml hr hlk ho hts hK hO hP hS hL) (fun q => kf (by rw [if_pos q] at h; exact h) p e s m args below meth c H locs ls hx hb hml hr hlk ho hts hK hO hP hS hL)
theorem wr_icmp_lt {x y : Int32} {off : Int} {A B : Option (Int32 × wg_M)} (tgt : Nat) (hd : decode cc pc = .ok (.if_icmp .lt off, 3)) (ht : (pc : Int) + off = (tgt : Int)) (h : (if x < y then A else B) = some z) (kt : A = some z → wg_G l E S own cc nL rt R r σ' tgt L st σ) (kf : B = some z → wg_G l E S own cc nL rt R r σ' (pc + 3) L st σ) : wg_G l E S own cc nL rt R r σ' pc L (.int y :: .int x :: st) σ :=
  fun p e s m args below meth c H locs ls hx hb hml hr hlk ho hts hK hO hP hS hL => lv_icmp_lt hx hb hd ht (fun q => kt (by rw [if_pos q] at h; exact h) p e s m args below meth c H locs ls hx hb hml hr hlk ho hts hK hO hP hS hL) (fun q => kf (by rw [if_neg q] at h; exact h) p e s m args below meth c H locs ls hx hb hml hr hlk ho hts hK hO hP hS hL)
theorem wr_icmp_ge {x y : Int32} {off : Int} {A B : Option (Int32 × wg_M)} (tgt : Nat) (hd : decode cc pc = .ok (.if_icmp .ge off, 3)) (ht : (pc : Int) + off = (tgt : Int)) (h : (if y ≤ x then A else B) = some z) (kt : A = some z → wg_G l E S own cc nL rt R r σ' tgt L st σ) (kf : B = some z → wg_G l E S own cc nL rt R r σ' (pc + 3) L st σ) : wg_G l E S own cc nL rt R r σ' pc L (.int y :: .int x :: st) σ :=
  fun p e s m args below meth c H locs ls hx hb hml hr hlk ho hts hK hO hP hS hL => lv_icmp_ge hx hb hd ht (fun q => kt (by rw [if_pos q] at h; exact h) p e s m args below meth c H locs ls hx hb hml hr hlk ho hts hK hO hP hS hL) (fun q => kf (by rw [if_neg q] at h; exact h) p e s m args below meth c H locs ls hx hb hml hr hlk ho hts hK hO hP hS hL)
theorem wr_icmp_gt {x y : Int32} {off : Int} {A B : Option (Int32 × wg_M)} (tgt : Nat) (hd : decode cc pc = .ok (.if_icmp .gt off, 3)) (ht : (pc : Int) + off = (tgt : Int)) (h : (if y < x then A else B) = some z) (kt : A = some z → wg_G l E S own cc nL rt R r σ' tgt L st σ) (kf : B = some z → wg_G l E S own cc nL rt R r σ' (pc + 3) L st σ) : wg_G l E S own cc nL rt R r σ' pc L (.int y :: .int x :: st) σ :=
  fun p e s m args below meth c H locs ls hx hb hml hr hlk ho hts hK hO hP hS hL => lv_icmp_gt hx hb hd ht (fun q => kt (by rw [if_pos q] at h; exact h) p e s m args below meth c H locs ls hx hb hml hr hlk ho hts hK hO hP hS hL) (fun q => kf (by rw [if_neg q] at h; exact h) p e s m args below meth c H locs ls hx hb hml hr hlk ho hts hK hO hP hS hL)
theorem wr_icmp_le {x y : Int32} {off : Int} {A B : Option (Int32 × wg_M)} (tgt : Nat) (hd : decode cc pc = .ok (.if_icmp .le off, 3)) (ht : (pc : Int) + off = (tgt : Int)) (h : (if x ≤ y then A else B) = some z) (kt : A = some z → wg_G l E S own cc nL rt R r σ' tgt L st σ) (kf : B = some z → wg_G l E S own cc nL rt R r σ' (pc + 3) L st σ) : wg_G l E S own cc nL rt R r σ' pc L (.int y :: .int x :: st) σ :=
  fun p e s m args below meth c H locs ls hx hb hml hr hlk ho hts hK hO hP hS hL => lv_icmp_le hx hb hd ht (fun q => kt (by rw [if_pos q] at h; exact h) p e s m args below meth c H locs ls hx hb hml hr hlk ho hts hK hO hP hS hL) (fun q => kf (by rw [if_neg q] at h; exact h) p e s m args below meth c H locs ls hx hb hml hr hlk ho hts hK hO hP hS hL)
def wg_mk : List Bool → List (Option Value) → List (Option Value)
  | b :: bs, o :: os => (if b = true then o else none) :: wg_mk bs os
  | _, _ => []
theorem wg_mk_sub : ∀ (bs : List Bool) (L : List (Option Value)) (i : Nat) (v : Value), (wg_mk bs L)[i]? = some (some v) → L[i]? = some (some v)
  | [], L, i, v, h => by simp [wg_mk] at h
  | b :: bs, [], i, v, h => by simp [wg_mk] at h
  | b :: bs, o :: os, 0, v, h => by
    cases b
    · simp [wg_mk] at h
    · simpa [wg_mk] using h
  | b :: bs, o :: os, i + 1, v, h => by
    have h2 : (wg_mk bs os)[i]? = some (some v) := by simpa [wg_mk] using h
    simpa using wg_mk_sub bs os i v h2
theorem wr_wk (bs : List Bool) (k : wg_G l E S own cc nL rt R r σ' pc (wg_mk bs L) st σ) : wg_G l E S own cc nL rt R r σ' pc L st σ :=
  fun p e s m args below meth c H locs ls hx hb hml hr hlk ho hts hK hO hP hS hL => k p e s m args below meth c H locs ls hx hb hml hr hlk ho hts hK hO hP hS (hL.wk (wg_mk_sub bs L))
theorem wr_iret {x : Int32} (hd : decode cc pc = .ok (.ireturn, 1)) (h : some (x, σ) = some z) : wg_G l E S own cc nL (some .int) R (some z.1) z.2 pc L [.int x] σ := by
  intro p e s m args below meth c H locs ls hx hb hml hr hlk ho hts hK hO hP hS hL
  cases h
  exact W.iret hx hb hr (fun t ht hW => ⟨rfl, by rw [ht]; exact hP, hS.F ht⟩) hS.2.2 hd hlk
def wg_bz {α : Type} (v : Int32) (κ : Option α) : Option α := if v = 0 ∨ v = 1 then κ else none
theorem wg_nar {v : Int32} (h : v = 0 ∨ v = 1) : narrow .boolean (.int v) = .int v := by rcases h with rfl | rfl <;> rfl
theorem wg_bz_of {α : Type} {v : Int32} {κ : Option α} {q : α} (h : wg_bz v κ = some q) : (v = 0 ∨ v = 1) ∧ κ = some q := by
  unfold wg_bz at h; split at h
  · next c => exact ⟨c, h⟩
  · cases h
theorem wr_zret {x : Int32} (hd : decode cc pc = .ok (.ireturn, 1)) (h : wg_bz x (some (x, σ)) = some z) : wg_G l E S own cc nL (some .boolean) R (some z.1) z.2 pc L [.int x] σ := by
  intro p e s m args below meth c H locs ls hx hb hml hr hlk ho hts hK hO hP hS hL
  obtain ⟨hc, h⟩ := wg_bz_of h
  cases h
  exact W.zret hx hb hr (wg_nar hc) (fun t ht hW => ⟨rfl, by rw [ht]; exact hP, hS.F ht⟩) hS.2.2 hd hlk
theorem wr_zret0 (hd : decode cc pc = .ok (.ireturn, 1)) (h : some (0, σ) = some z) : wg_G l E S own cc nL (some .boolean) R (some z.1) z.2 pc L [.int 0] σ :=
  wr_zret hd (by rw [wg_bz, if_pos (Or.inl rfl)]; exact h)
theorem wr_zret1 (hd : decode cc pc = .ok (.ireturn, 1)) (h : some (1, σ) = some z) : wg_G l E S own cc nL (some .boolean) R (some z.1) z.2 pc L [.int 1] σ :=
  wr_zret hd (by rw [wg_bz, if_pos (Or.inr rfl)]; exact h)
theorem wr_vret (hd : decode cc pc = .ok (.return_, 1)) (h : some (0, σ) = some z) : wg_G l E S own cc nL none R none z.2 pc L [] σ := by
  intro p e s m args below meth c H locs ls hx hb hml hr hlk ho hts hK hO hP hS hL
  cases h
  exact W.vret hx hb hr (fun t ht hW => ⟨rfl, by rw [ht]; exact hP, hS.F ht⟩) hS.2.2 hd hlk
end WR

theorem wq_1_23 : Cond.instantiable "WornWigs" (7 : Nat) ∈ wg_T := wg_T_of (wg_t1 (List.mem_of_getElem? (i := 23) rfl)) rfl
theorem wq_6_121 : Cond.instantiable "WornWigsModel" (61 : Nat) ∈ wg_T := wg_T_of (wg_t6 (List.mem_of_getElem? (i := 121) rfl)) rfl
theorem wq_1_22 : Cond.classLink "WornWigsLaw" (7 : Nat) "WornWigs" ∈ wg_T := wg_T_of (wg_t1 (List.mem_of_getElem? (i := 22) rfl)) rfl
theorem wq_6_120 : Cond.classLink "WornWigsLaw" (10 : Nat) "WornWigsModel" ∈ wg_T := wg_T_of (wg_t6 (List.mem_of_getElem? (i := 120) rfl)) rfl
theorem wq_1_24 : Cond.methodLink "WornWigsLaw" 9 yX11_init ∈ wg_T := wg_T_of (wg_t1 (List.mem_of_getElem? (i := 24) rfl)) rfl
theorem wq_1_25 : Cond.instanceMethod yX11_init ∈ wg_T := wg_T_of (wg_t1 (List.mem_of_getElem? (i := 25) rfl)) rfl
theorem wq_1_26 : Cond.code yX11_init prog_1_method_1_code 1 (Option.none : Option Jvm.ClassFile.FieldType) ∈ wg_T := wg_T_of (wg_t1 (List.mem_of_getElem? (i := 26) rfl)) rfl
theorem wq_6_122 : Cond.methodLink "WornWigsLaw" 12 yX12_init ∈ wg_T := wg_T_of (wg_t6 (List.mem_of_getElem? (i := 122) rfl)) rfl
theorem wq_6_123 : Cond.instanceMethod yX12_init ∈ wg_T := wg_T_of (wg_t6 (List.mem_of_getElem? (i := 123) rfl)) rfl
theorem wq_6_124 : Cond.code yX12_init prog_14_method_1_code 1 (Option.none : Option Jvm.ClassFile.FieldType) ∈ wg_T := wg_T_of (wg_t6 (List.mem_of_getElem? (i := 124) rfl)) rfl
theorem wy_X11_init : wg_Y yX11_init cX11_init 1 (none) 0 := ⟨wq_1_1, wq_1_26, by decide +kernel⟩
theorem wy_X12_init : wg_Y yX12_init cX12_init 1 (none) 0 := ⟨wq_1_14, wq_6_124, by decide +kernel⟩
theorem wz_ao : Cond.arrayOver (.object "WornWigs$Bench") ∈ lw_tbl := wg_t2 (List.mem_of_getElem? (i := 135) rfl)
theorem wz_K {s : State} {args : Array Value} (hts : ∀ w ∈ lw_tbl, w.before args s = true) : ∃ (D : va_G) (cI cB : ClassId), va_K D vwCl [(cI, .int), (cB, .object "WornWigs$Bench")] s := by
  obtain ⟨c0, i0, h0⟩ := u_known (C := RX0) (T := TX0) (N := 10) (n := 10) hts (fun w hw => wg_T_in (wu_0 w hw)) (hts _ (wg_T_in wq_1_37))
  obtain ⟨c1, i1, h1⟩ := u_known (C := RX1) (T := TX1) (N := 7) (n := 7) hts (fun w hw => wg_T_in (wu_1 w hw)) (hts _ (wg_T_in wq_2_212))
  obtain ⟨c2, i2, h2⟩ := u_known (C := RX2) (T := TX2) (N := 6) (n := 6) hts (fun w hw => wg_T_in (wu_2 w hw)) (hts _ (wg_T_in wq_1_103))
  obtain ⟨c3, i3, h3⟩ := u_known (C := RX3) (T := TX3) (N := 9) (n := 9) hts (fun w hw => wg_T_in (wu_3 w hw)) (hts _ (wg_T_in wq_1_235))
  obtain ⟨c4, i4, h4⟩ := u_known (C := RX4) (T := TX4) (N := 5) (n := 5) hts (fun w hw => wg_T_in (wu_4 w hw)) (hts _ (wg_T_in wq_1_196))
  obtain ⟨c5, i5, h5⟩ := u_known (C := RX5) (T := TX5) (N := 3) (n := 3) hts (fun w hw => wg_T_in (wu_5 w hw)) (hts _ (wg_T_in wq_2_129))
  obtain ⟨c6, i6, h6⟩ := u_known (C := RX6) (T := TX6) (N := 16) (n := 16) hts (fun w hw => wg_T_in (wu_6 w hw)) (hts _ (wg_T_in wq_2_149))
  obtain ⟨c7, i7, h7⟩ := u_known (C := RX7) (T := TX7) (N := 2) (n := 2) hts (fun w hw => wg_T_in (wu_7 w hw)) (hts _ (wg_T_in wq_3_2))
  obtain ⟨c8, i8, h8⟩ := u_known (C := RX8) (T := TX8) (N := 12) (n := 12) hts (fun w hw => wg_T_in (wu_8 w hw)) (hts _ (wg_T_in wq_2_36))
  obtain ⟨c9, i9, h9⟩ := u_known (C := RX9) (T := TX9) (N := 9) (n := 9) hts (fun w hw => wg_T_in (wu_9 w hw)) (hts _ (wg_T_in wq_1_43))
  obtain ⟨c10, i10, h10⟩ := u_known (C := RX10) (T := TX10) (N := 7) (n := 7) hts (fun w hw => wg_T_in (wu_10 w hw)) (hts _ (wg_T_in wq_1_31))
  obtain ⟨c11, i11, h11⟩ := u_known (C := RX11) (T := TX11) (N := 7) (n := 7) hts (fun w hw => wg_T_in (wu_11 w hw)) (hts _ (wg_T_in wq_1_23))
  obtain ⟨c12, i12, h12⟩ := u_known (C := RX12) (T := TX12) (N := 61) (n := 61) hts (fun w hw => wg_T_in (wu_12 w hw)) (hts _ (wg_T_in wq_6_121))
  obtain ⟨cI, kI, compI, a1, a2, a3⟩ := Cond.arrayClass_spec (hts _ (wg_T_in wq_arr))
  obtain ⟨comp, cB, kB, b1, b2, b3, b4, b5⟩ := Cond.arrayOver_spec (hts _ wz_ao)
  refine ⟨(fun k => [c0, c1, c2, c3, c4, c5, c6, c7, c8, c9, c10, c11, c12].getD k 0, fun k => [i0, i1, i2, i3, i4, i5, i6, i7, i8, i9, i10, i11, i12].getD k (fun _ => 0)), cI, cB, ?_, ?_⟩
  · intro c q hq
    match c, hq with
    | 0, hq => cases hq; exact h0
    | 1, hq => cases hq; exact h1
    | 2, hq => cases hq; exact h2
    | 3, hq => cases hq; exact h3
    | 4, hq => cases hq; exact h4
    | 5, hq => cases hq; exact h5
    | 6, hq => cases hq; exact h6
    | 7, hq => cases hq; exact h7
    | 8, hq => cases hq; exact h8
    | 9, hq => cases hq; exact h9
    | 10, hq => cases hq; exact h10
    | 11, hq => cases hq; exact h11
    | 12, hq => cases hq; exact h12
    | c + 13, hq => simp [vwCl] at hq
  · intro k q hq
    match k, hq with
    | 0, hq => cases hq; exact ⟨fun n z => ⟨fun k h => (by cases h), kI, a2, compI, a3⟩, a1⟩
    | 1, hq => cases hq; exact ⟨fun n z => ⟨fun k h => (by cases h), kB, b3, comp, b4⟩, kB, comp, b3, b4, b1, b5⟩
    | k + 2, hq => simp at hq
theorem wz_N {s : State} {args : Array Value} (hts : ∀ w ∈ lw_tbl, w.before args s = true) : ∀ q ∈ wg_NW, va_Nw (.methodLinkNest q.1 q.2.1 q.2.2 "WornWigs") s := by
  exact List.forall_mem_cons.mpr ⟨va_Nw.of rfl (hts _ (wg_t1 (List.mem_of_getElem? (i := 32) rfl))), List.forall_mem_cons.mpr ⟨va_Nw.of rfl (hts _ (wg_t1 (List.mem_of_getElem? (i := 38) rfl))), List.forall_mem_cons.mpr ⟨va_Nw.of rfl (hts _ (wg_t1 (List.mem_of_getElem? (i := 44) rfl))), List.forall_mem_cons.mpr ⟨va_Nw.of rfl (hts _ (wg_t1 (List.mem_of_getElem? (i := 104) rfl))), List.forall_mem_cons.mpr ⟨va_Nw.of rfl (hts _ (wg_t1 (List.mem_of_getElem? (i := 236) rfl))), List.forall_mem_cons.mpr ⟨va_Nw.of rfl (hts _ (wg_t2 (List.mem_of_getElem? (i := 37) rfl))), List.forall_mem_cons.mpr ⟨va_Nw.of rfl (hts _ (wg_t2 (List.mem_of_getElem? (i := 136) rfl))), List.forall_mem_cons.mpr ⟨va_Nw.of rfl (hts _ (wg_t2 (List.mem_of_getElem? (i := 155) rfl))), List.forall_mem_cons.mpr ⟨va_Nw.of rfl (hts _ (wg_t2 (List.mem_of_getElem? (i := 218) rfl))), List.forall_mem_cons.mpr ⟨va_Nw.of rfl (hts _ (wg_t3 (List.mem_of_getElem? (i := 142) rfl))), List.forall_mem_cons.mpr ⟨va_Nw.of rfl (hts _ (wg_t3 (List.mem_of_getElem? (i := 153) rfl))), List.forall_mem_cons.mpr ⟨va_Nw.of rfl (hts _ (wg_t3 (List.mem_of_getElem? (i := 154) rfl))), List.forall_mem_cons.mpr ⟨va_Nw.of rfl (hts _ (wg_t3 (List.mem_of_getElem? (i := 195) rfl))), List.forall_mem_cons.mpr ⟨va_Nw.of rfl (hts _ (wg_t3 (List.mem_of_getElem? (i := 239) rfl))), List.forall_mem_cons.mpr ⟨va_Nw.of rfl (hts _ (wg_t4 (List.mem_of_getElem? (i := 21) rfl))), List.forall_mem_cons.mpr ⟨va_Nw.of rfl (hts _ (wg_t4 (List.mem_of_getElem? (i := 92) rfl))), List.forall_mem_cons.mpr ⟨va_Nw.of rfl (hts _ (wg_t4 (List.mem_of_getElem? (i := 232) rfl))), List.forall_mem_cons.mpr ⟨va_Nw.of rfl (hts _ (wg_t5 (List.mem_of_getElem? (i := 30) rfl))), List.forall_mem_cons.mpr ⟨va_Nw.of rfl (hts _ (wg_t5 (List.mem_of_getElem? (i := 213) rfl))), List.forall_mem_cons.mpr ⟨va_Nw.of rfl (hts _ (wg_t6 (List.mem_of_getElem? (i := 110) rfl))), fun _ h => absurd h List.not_mem_nil⟩⟩⟩⟩⟩⟩⟩⟩⟩⟩⟩⟩⟩⟩⟩⟩⟩⟩⟩⟩
def wz_1 : wc_W := wc_K [(13, 0, wc_df 11)] 0 (ob_11 1) (nw_11 1)
def wz_3 : wc_W := wc_K (wz_1 ++ [(14, 0, wc_df 12)]) 282 (ob_12 283) (nw_12 283)
def wz_pc : List Nat := [1, 2, 3, 4, 5, 6, 7, 8, 9, 10, 11, 12, 13, 14, 15, 16, 17, 18, 19, 20, 21, 22, 23, 24, 25, 26, 27, 28, 29, 30, 31, 32, 33, 34, 35, 36, 37, 38, 39, 40, 41, 42, 43, 44, 45, 46, 47, 48, 49, 50, 51, 52, 53, 54, 55, 56, 57, 58, 59, 60, 61, 62, 63, 64, 65, 66, 67, 68, 69, 70, 71, 72, 73, 74, 75, 76, 77, 78, 79, 80, 81, 82, 83, 84, 85, 86, 87, 88, 89, 90, 91, 92, 93, 94, 95, 96, 97, 98, 99, 100, 101, 102, 103, 104, 105, 106, 107, 108, 109, 110, 111, 112, 113, 114, 115, 116, 117, 118, 261, 262, 263, 264, 265, 266, 267, 268, 269, 270, 271, 272, 273, 274, 275, 276, 277, 278, 279, 280, 121, 122, 123, 124, 125, 126, 127, 128, 129, 130, 131, 132, 133, 134, 135, 136, 137, 138, 139, 140, 141, 142, 143, 144, 145, 146, 147, 148, 149, 150, 151, 152, 153, 154, 155, 156, 157, 158, 159, 160, 161, 162, 163, 164, 165, 166, 167, 168, 169, 170, 171, 172, 173, 174, 175, 176, 177, 178, 179, 180, 181, 182, 183, 184, 185, 186, 187, 188, 189, 190, 191, 192, 193, 194, 195, 196, 197, 198, 199, 200, 201, 202, 203, 204, 205, 206, 207, 208, 209, 210, 211, 212, 213, 214, 215, 216, 217, 218, 219, 220, 221, 222, 223, 224, 225, 226, 227, 228, 229, 230, 231, 232, 233, 234, 235, 236, 237, 238, 239, 240, 119, 120, 241, 242, 243, 244, 245, 259, 246, 247, 248, 249, 250, 251, 252, 253, 254, 255, 256, 257, 258, 260, 281, 0]
def wz_pm : List Nat := [282, 283, 284, 285, 286, 287, 288, 289, 290, 291, 292, 293, 294, 295, 296, 297, 298, 299, 300, 301, 302, 303, 304, 305, 306, 307, 308, 309, 310, 311, 312, 313, 314, 315]
/-- a cell of a growing world as a shape, and its ints -/
def wz_sh (x : wc_X) : Nat × Nat × List (Option Nat) := match x with
  | (0, n, _) => (0, n, [])
  | (t + 1, n, fs) => (t + 1, n, fs.map (fun v => match v with | .inl _ => none | .inr o => o))
def wz_ic (x : wc_X) (i : Nat) : Int32 := match x with
  | (1, _, _) => 0
  | (_, _, fs) => match fs.getD i (.inl 0) with | .inl v => v | .inr _ => 0
def wz_nv : wc_V → Bool
  | .inr none => false
  | _ => true
def wz_nn (x : wc_X) : Bool := x.1 == 0 || x.2.2.all wz_nv
def wz_rn (P : List Nat) (q : Nat × Nat × List (Option Nat)) : Nat × Nat × List (Option Nat) := (q.1, q.2.1, q.2.2.map (fun o => o.map (fun j => P.getD j 0)))
def wz_fit (P : List Nat) (S : wg_S) (w : wc_W) : Bool := P.length == S.length && (List.range S.length).all (fun k => decide (P.getD k 0 < w.length) && decide (wz_sh (w.getD (P.getD k 0) (0, 0, [])) = wz_rn P (S.getD k (1000, 0, []))) && wz_nn (w.getD (P.getD k 0) (0, 0, [])))
theorem wz_fc : wz_fit wz_pc Sc wz_3 = true := by decide +kernel
theorem wz_fm : wz_fit wz_pm Sm wz_3 = true := by decide +kernel
def wz_c0 : wg_M := fun k => wz_ic (wz_3.getD (wz_pc.getD k 0) (0, 0, []))
def wz_m0 : wg_M := fun k => wz_ic (wz_3.getD (wz_pm.getD k 0) (0, 0, []))
theorem wz_ce {F : wc_F} {ad : Nat → Nat} {E : wg_E} {P : List Nat} {x : wc_X} {q : Nat × Nat × List (Option Nat)} (h1 : E.2.2.1 = F.2.1) (h2 : E.2.2.2.1 = F.2.2.1) (h3 : ∀ j, E.1 j = ad (P.getD j 0)) (hs : wz_sh x = wz_rn P q) (hn : wz_nn x = true) : wg_ce E q (wz_ic x) = wc_ce F ad x := by
  obtain ⟨t, n, fs⟩ := x
  obtain ⟨t', n', rs⟩ := q
  match t, hs, hn with
  | 0, hs, _ =>
    simp only [wz_sh, wz_rn, Prod.mk.injEq] at hs
    obtain ⟨e1, e2, -⟩ := hs
    subst e1; subst e2
    simp only [wg_ce, wc_ce, h1]
    rfl
  | 1, hs, hn =>
    simp only [wz_sh, wz_rn, Prod.mk.injEq] at hs
    obtain ⟨e1, e2, e3⟩ := hs
    have e1 : t' = 1 := by omega
    subst e1; subst e2
    simp only [wg_ce, wc_ce, h2]
    have ef : (fun i => (rs.getD i none).map E.1 : Nat → Option Nat) = (fun i => match fs.getD i (.inr none) with | .inr o => o.map ad | .inl _ => none) := by
      funext i
      have e4 := congrArg (fun l => l[i]?) e3
      simp only [List.getElem?_map] at e4
      rw [List.getD_eq_getElem?_getD, List.getD_eq_getElem?_getD]
      cases hf : fs[i]? with
      | none =>
        rw [hf] at e4
        cases hr : rs[i]? with
        | none => rfl
        | some o => rw [hr] at e4; cases e4
      | some v =>
        rw [hf] at e4
        cases hr : rs[i]? with
        | none => rw [hr] at e4; cases e4
        | some o =>
          rw [hr] at e4
          simp only [Option.map_some, Option.some.injEq] at e4
          cases v with
          | inl x =>
            cases o with
            | none => rfl
            | some j => cases e4
          | inr o2 =>
            simp only at e4
            subst e4
            cases o with
            | none => rfl
            | some j => simp [h3]
    rw [ef]
    try rfl
  | c + 2, hs, hn =>
    simp only [wz_sh, wz_rn, Prod.mk.injEq] at hs
    obtain ⟨e1, e2, e3⟩ := hs
    have e1 : t' = c + 2 := by omega
    subst e1
    simp only [wg_ce, wc_ce]
    congr 2
    apply List.ext_getElem?
    intro i
    have e4 := congrArg (fun l => l[i]?) e3
    simp only [List.getElem?_map] at e4
    rw [List.getElem?_mapIdx, List.getElem?_map]
    cases hf : fs[i]? with
    | none =>
      rw [hf] at e4
      cases hr : rs[i]? with
      | none => rfl
      | some o => rw [hr] at e4; cases e4
    | some v =>
      rw [hf] at e4
      cases hr : rs[i]? with
      | none => rw [hr] at e4; cases e4
      | some o =>
        rw [hr] at e4
        simp only [Option.map_some, Option.some.injEq] at e4 ⊢
        have hv : wz_nv v = true := by
          simp only [wz_nn, Bool.or_eq_true] at hn
          rcases hn with hn | hn
          · simp at hn
          · exact List.all_eq_true.mp hn v (List.mem_of_getElem? hf)
        cases v with
        | inl x =>
          cases o with
          | none =>
            simp only [wg_fv, wc_v, wz_ic]
            rw [List.getD_eq_getElem?_getD, hf]
            rfl
          | some j => cases e4
        | inr o2 =>
          cases o2 with
          | none => cases hv
          | some j2 =>
            cases o with
            | none => cases e4
            | some j =>
              simp only [Option.map_some, Option.some.injEq] at e4
              simp only [wg_fv, wc_v, Option.map_some, va_rf, h3]
              rw [e4]
theorem wz_at {P : List Nat} {S : wg_S} {w : wc_W} (h : wz_fit P S w = true) {k : Nat} (hk : k < S.length) : P.getD k 0 < w.length ∧ wz_sh (w.getD (P.getD k 0) (0, 0, [])) = wz_rn P (wg_c S k) ∧ wz_nn (w.getD (P.getD k 0) (0, 0, [])) = true := by
  simp only [wz_fit, Bool.and_eq_true] at h
  have := List.all_eq_true.mp h.2 k (List.mem_range.mpr hk)
  simp only [Bool.and_eq_true, decide_eq_true_eq] at this
  exact ⟨this.1.1, this.1.2, this.2⟩
theorem wz_P {F : wc_F} {ad : Nat → Nat} {E : wg_E} {P : List Nat} {S : wg_S} {w : wc_W} {H : Heap} (hf : wz_fit P S w = true) (h0 : E.2.1 = F.1) (h1 : E.2.2.1 = F.2.1) (h2 : E.2.2.2.1 = F.2.2.1) (h3 : ∀ j, E.1 j = ad (P.getD j 0)) (hP : va_P F.1 vwCl (wc_w F ad w) H) : va_P E.2.1 vwCl (wg_w E S (fun k => wz_ic (w.getD (P.getD k 0) (0, 0, [])))) H := by
  rw [h0]
  intro k q hq
  have hk : k < S.length := by rw [← wg_w_len (E := E) (S := S) (σ := (fun k => wz_ic (w.getD (P.getD k 0) (0, 0, []))))]; exact (List.getElem?_eq_some_iff.mp hq).1
  rw [wg_w_get hk] at hq
  cases hq
  obtain ⟨a1, a2, a3⟩ := wz_at hf hk
  have e9 : ∀ i : Nat, i < w.length → w[i]? = some (w.getD i (0, 0, [])) := fun i hi => by
    rw [List.getD_eq_getElem?_getD, List.getElem?_eq_getElem hi]; rfl
  have e : w[P.getD k 0]? = some (w.getD (P.getD k 0) (0, 0, [])) := e9 _ a1
  have := hP _ _ (wc_w_get (F := F) (ad := ad) e)
  rw [wz_ce h1 h2 h3 a2 a3, h3]
  exact this
theorem wz_inj {F : wc_F} {ad : Nat → Nat} {w : wc_W} (hD : va_D (wc_A F) (wc_w F ad w)) {i j : Nat} (hi : i < w.length) (hj : j < w.length) (h : ad i = ad j) : i = j :=
  hD.1 i j _ _ (wc_w_get (List.getElem?_eq_getElem hi)) (wc_w_get (List.getElem?_eq_getElem hj)) h
theorem wz_pcn : ∀ i, i < 282 → ∀ j, j < 282 → wz_pc.getD i 0 = wz_pc.getD j 0 → i = j := by decide +kernel
theorem wz_pmn : ∀ i, i < 34 → ∀ j, j < 34 → wz_pm.getD i 0 = wz_pm.getD j 0 → i = j := by decide +kernel
theorem wz_pcm : ∀ i, i < 282 → ∀ j, j < 34 → wz_pc.getD i 0 ≠ wz_pm.getD j 0 := by decide +kernel
theorem wz_len : wz_3.length = 316 := by decide +kernel
/-- what is carried of the constant text -/
def wz_X (B sa sv : Nat) (fv : Option Nat) (U : State) : Prop := vk_R "WornWigs$Reader" 88 wg_tx sa U ∧ vk_S 1 [128] [wg_wb] (fun _ => sa) (fun _ => sv) (fun q => B ≤ q) U U.heap ∧ va_Z "java/lang/String" "COMPACT_STRINGS" "Z" (.int 1) (fun q => B ≤ q) U U.heap ∧ va_Z "jdk/internal/util/Preconditions" "SIOOBE_FORMATTER" "Ljava/util/function/BiFunction;" (va_rf fv) (fun q => B ≤ q) U U.heap
theorem wz_Xm {B sa sv : Nat} {fv : Option Nat} {A : Nat → Prop} (hA : ∀ q, A q → B ≤ q) {u U : State} (hW : u.WarmedH U.vm) (hq : ∀ q, q < u.heap.size → ¬ A q → U.heap[q]? = u.heap[q]?) (h : wz_X B sa sv fv u) : wz_X B sa sv fv U := by
  obtain ⟨h1, h2, h3, h4⟩ := h
  have hk : ∀ a : Nat, a < u.heap.size → ¬ (fun q => B ≤ q) a → U.heap[a]? = u.heap[a]? := fun a ha hb => hq a ha (fun hc => hb (hA a hc))
  exact ⟨vk_R.warm hW h1, (vk_S.moved hW.alike h2).kept hk, (va_Z.moved hW.alike h3).kept hk, (va_Z.moved hW.alike h4).kept hk⟩
theorem wz_Xs {E : wg_E} {S : wg_S} {B sa sv : Nat} {fv : Option Nat} (hE : E.2.2.2.2 = ((sa, sv, fv), wz_X B sa sv fv)) (hA : ∀ q, wg_A E S q → B ≤ q) : wg_sx E S := by
  intro U hU
  rw [hE] at hU
  obtain ⟨h1, h2, h3, h4⟩ := hU
  refine ⟨?_, ?_, h3.narrow hA, ?_⟩
  · rw [hE]; exact h1
  · rw [hE]; exact h2.narrow hA
  · rw [hE]; exact h4.narrow hA
set_option maxRecDepth 20000 in
theorem wz_Xof {s : State} {args : Array Value} (hts : ∀ w ∈ lw_tbl, w.before args s = true) (hg : (Jvm.Cond.and given_1 narrow_1).before args s = true) : ∃ (sa sv : Nat) (fv : Option Nat), wz_X s.heap.size sa sv fv s := by
  have hs := flat_of_before _ hg
  have hA : ∀ a : Nat, a < s.heap.size → ¬ (fun q => s.heap.size ≤ q) a := fun a h1 h2 => absurd h1 (Nat.not_lt.mpr h2)
  have he : ∀ j : Nat, j < 128 → (Cond.eq (.elem (.field (.string "WornWigs$Reader" 88) "java/lang/String" "value" "[B") (.int (Int32.ofNat j))) (.int (wg_wb.getD j 0))) ∈ flatC (Jvm.Cond.and given_1 narrow_1) := by decide +kernel
  obtain ⟨adK, adV, hS, hev⟩ := vk_Sof (args := args) (s := s) (N := 1) (tm := fun _ => .string "WornWigs$Reader" 88) (len := [128]) (byt := [wg_wb]) (A := fun q => s.heap.size ≤ q)
    (fun i hi => by rw [show i = 0 by omega]; decide) (fun i _ => hs _ (by decide +kernel)) (fun i _ => hs _ (by decide +kernel)) (fun i _ => hs _ (by decide +kernel))
    (fun i hi => by rw [show i = 0 by omega]; exact hs _ (by decide +kernel)) (fun i hi j hj => by
      have hi0 : i = 0 := by omega
      subst hi0
      exact hs _ (he j hj)) (fun i j hi hj hne => absurd (by omega) hne) hA
  have hZ := va_Zof (A := fun q => s.heap.size ≤ q) (hts (.laysStatic "java/lang/String" "COMPACT_STRINGS" "Z") (wg_t4 (List.mem_of_getElem? (i := 107) rfl))) (hts _ (wg_T_in wq_1_18)) (va_eqt (z := 1) (hs _ (by decide +kernel))) hA
  have hq := va_Zqof (A := fun q => s.heap.size ≤ q) (hts (.laysStatic "jdk/internal/util/Preconditions" "SIOOBE_FORMATTER" "Ljava/util/function/BiFunction;") (wg_t4 (List.mem_of_getElem? (i := 123) rfl))) (hts (.initialized "jdk/internal/util/Preconditions") (wg_t1 (List.mem_of_getElem? (i := 20) rfl))) (hs _ (by decide +kernel)) hA
  have hR : vk_R "WornWigs$Reader" 88 wg_tx (adK 0) s := vk_R.of (hts _ (wg_t4 (List.mem_of_getElem? (i := 97) rfl))) (hev 0 (by decide))
  have hS1 : vk_S 1 [128] [wg_wb] (fun _ => adK 0) (fun _ => adV 0) (fun q => s.heap.size ≤ q) s s.heap := ⟨fun i hi => by
    have hi0 : i = 0 := by omega
    subst hi0
    exact hS.1 0 hi, fun i j hi hj _ => by omega⟩
  rcases hq with hq | ⟨t, hq⟩
  · exact ⟨adK 0, adV 0, none, hR, hS1, hZ, hq⟩
  · exact ⟨adK 0, adV 0, some t, hR, hS1, hZ, hq⟩

theorem wq_1_47 : Cond.methodLink "WornWigs$Wigs" 3 ⟨"java/lang/Object", "<init>", "()V"⟩ ∈ wg_T := wg_T_of (wg_t1 (List.mem_of_getElem? (i := 47) rfl)) rfl
theorem wq_1_28 : Cond.instanceMethod ⟨"java/lang/Object", "<init>", "()V"⟩ ∈ wg_T := wg_T_of (wg_t1 (List.mem_of_getElem? (i := 28) rfl)) rfl
theorem wq_1_29 : Cond.code ⟨"java/lang/Object", "<init>", "()V"⟩ object_method_1_code 1 (Option.none : Option Jvm.ClassFile.FieldType) ∈ wg_T := wg_T_of (wg_t1 (List.mem_of_getElem? (i := 29) rfl)) rfl
theorem wq_1_107 : Cond.methodLink "WornWigs$Judges" 3 ⟨"java/lang/Object", "<init>", "()V"⟩ ∈ wg_T := wg_T_of (wg_t1 (List.mem_of_getElem? (i := 107) rfl)) rfl
theorem wq_1_41 : Cond.methodLink "WornWigs$Bench" 3 ⟨"java/lang/Object", "<init>", "()V"⟩ ∈ wg_T := wg_T_of (wg_t1 (List.mem_of_getElem? (i := 41) rfl)) rfl
theorem wq_1_42 : Cond.classLink "WornWigs$Bench" (9 : Nat) "WornWigs$Wigs" ∈ wg_T := wg_T_of (wg_t1 (List.mem_of_getElem? (i := 42) rfl)) rfl
theorem wq_1_43 : Cond.instantiable "WornWigs$Wigs" (9 : Nat) ∈ wg_T := wg_T_of (wg_t1 (List.mem_of_getElem? (i := 43) rfl)) rfl
theorem wq_1_45 : Cond.instanceMethod yX9_init ∈ wg_T := wg_T_of (wg_t1 (List.mem_of_getElem? (i := 45) rfl)) rfl
theorem wq_1_46 : Cond.code yX9_init prog_11_method_1_code 1 (Option.none : Option Jvm.ClassFile.FieldType) ∈ wg_T := wg_T_of (wg_t1 (List.mem_of_getElem? (i := 46) rfl)) rfl
theorem wq_1_102 : Cond.classLink "WornWigs$Bench" (18 : Nat) "WornWigs$Judges" ∈ wg_T := wg_T_of (wg_t1 (List.mem_of_getElem? (i := 102) rfl)) rfl
theorem wq_1_103 : Cond.instantiable "WornWigs$Judges" (6 : Nat) ∈ wg_T := wg_T_of (wg_t1 (List.mem_of_getElem? (i := 103) rfl)) rfl
theorem wq_1_105 : Cond.instanceMethod yX2_init ∈ wg_T := wg_T_of (wg_t1 (List.mem_of_getElem? (i := 105) rfl)) rfl
theorem wq_1_106 : Cond.code yX2_init prog_4_method_1_code 1 (Option.none : Option Jvm.ClassFile.FieldType) ∈ wg_T := wg_T_of (wg_t1 (List.mem_of_getElem? (i := 106) rfl)) rfl
theorem wq_1_200 : Cond.methodLink "WornWigs$Lines" 1 ⟨"java/lang/Object", "<init>", "()V"⟩ ∈ wg_T := wg_T_of (wg_t1 (List.mem_of_getElem? (i := 200) rfl)) rfl
theorem wq_1_201 : Cond.methodLink "WornWigs$Lines" 7 yJ9_max_7cf53 ∈ wg_T := wg_T_of (wg_t1 (List.mem_of_getElem? (i := 201) rfl)) rfl
theorem wq_1_239 : Cond.methodLink "WornWigs$Law" 3 ⟨"java/lang/Object", "<init>", "()V"⟩ ∈ wg_T := wg_T_of (wg_t1 (List.mem_of_getElem? (i := 239) rfl)) rfl
theorem wq_2_40 : Cond.methodLink "WornWigs$Told" 3 ⟨"java/lang/Object", "<init>", "()V"⟩ ∈ wg_T := wg_T_of (wg_t2 (List.mem_of_getElem? (i := 40) rfl)) rfl
theorem wq_1_35 : Cond.methodLink "WornWigs$World" 3 ⟨"java/lang/Object", "<init>", "()V"⟩ ∈ wg_T := wg_T_of (wg_t1 (List.mem_of_getElem? (i := 35) rfl)) rfl
theorem wq_1_36 : Cond.classLink "WornWigs$World" (9 : Nat) "WornWigs$Bench" ∈ wg_T := wg_T_of (wg_t1 (List.mem_of_getElem? (i := 36) rfl)) rfl
theorem wq_1_37 : Cond.instantiable "WornWigs$Bench" (10 : Nat) ∈ wg_T := wg_T_of (wg_t1 (List.mem_of_getElem? (i := 37) rfl)) rfl
theorem wq_1_39 : Cond.instanceMethod yX0_init ∈ wg_T := wg_T_of (wg_t1 (List.mem_of_getElem? (i := 39) rfl)) rfl
theorem wq_1_40 : Cond.code yX0_init prog_2_method_1_code 1 (Option.none : Option Jvm.ClassFile.FieldType) ∈ wg_T := wg_T_of (wg_t1 (List.mem_of_getElem? (i := 40) rfl)) rfl
theorem wq_1_195 : Cond.classLink "WornWigs$World" (18 : Nat) "WornWigs$Lines" ∈ wg_T := wg_T_of (wg_t1 (List.mem_of_getElem? (i := 195) rfl)) rfl
theorem wq_1_196 : Cond.instantiable "WornWigs$Lines" (5 : Nat) ∈ wg_T := wg_T_of (wg_t1 (List.mem_of_getElem? (i := 196) rfl)) rfl
theorem wq_1_197 : Cond.methodLink "WornWigs$World" 20 yX4_init ∈ wg_T := wg_T_of (wg_t1 (List.mem_of_getElem? (i := 197) rfl)) rfl
theorem wq_1_198 : Cond.instanceMethod yX4_init ∈ wg_T := wg_T_of (wg_t1 (List.mem_of_getElem? (i := 198) rfl)) rfl
theorem wq_1_199 : Cond.code yX4_init prog_6_method_1_code 3 (Option.none : Option Jvm.ClassFile.FieldType) ∈ wg_T := wg_T_of (wg_t1 (List.mem_of_getElem? (i := 199) rfl)) rfl
theorem wq_1_234 : Cond.classLink "WornWigs$World" (27 : Nat) "WornWigs$Law" ∈ wg_T := wg_T_of (wg_t1 (List.mem_of_getElem? (i := 234) rfl)) rfl
theorem wq_1_235 : Cond.instantiable "WornWigs$Law" (9 : Nat) ∈ wg_T := wg_T_of (wg_t1 (List.mem_of_getElem? (i := 235) rfl)) rfl
theorem wq_1_237 : Cond.instanceMethod yX3_init ∈ wg_T := wg_T_of (wg_t1 (List.mem_of_getElem? (i := 237) rfl)) rfl
theorem wq_1_238 : Cond.code yX3_init prog_5_method_1_code 1 (Option.none : Option Jvm.ClassFile.FieldType) ∈ wg_T := wg_T_of (wg_t1 (List.mem_of_getElem? (i := 238) rfl)) rfl
theorem wq_2_35 : Cond.classLink "WornWigs$World" (43 : Nat) "WornWigs$Told" ∈ wg_T := wg_T_of (wg_t2 (List.mem_of_getElem? (i := 35) rfl)) rfl
theorem wq_2_36 : Cond.instantiable "WornWigs$Told" (12 : Nat) ∈ wg_T := wg_T_of (wg_t2 (List.mem_of_getElem? (i := 36) rfl)) rfl
theorem wq_2_38 : Cond.instanceMethod yX8_init ∈ wg_T := wg_T_of (wg_t2 (List.mem_of_getElem? (i := 38) rfl)) rfl
theorem wq_2_39 : Cond.code yX8_init prog_10_method_1_code 1 (Option.none : Option Jvm.ClassFile.FieldType) ∈ wg_T := wg_T_of (wg_t2 (List.mem_of_getElem? (i := 39) rfl)) rfl
theorem wq_2_133 : Cond.methodLink "WornWigs$Past" 3 ⟨"java/lang/Object", "<init>", "()V"⟩ ∈ wg_T := wg_T_of (wg_t2 (List.mem_of_getElem? (i := 133) rfl)) rfl
theorem wq_2_134 : Cond.classLink "WornWigs$Past" (9 : Nat) "WornWigs$Bench" ∈ wg_T := wg_T_of (wg_t2 (List.mem_of_getElem? (i := 134) rfl)) rfl
theorem wq_2_153 : Cond.methodLink "WornWigs$Reader" 3 ⟨"java/lang/Object", "<init>", "()V"⟩ ∈ wg_T := wg_T_of (wg_t2 (List.mem_of_getElem? (i := 153) rfl)) rfl
theorem wq_2_154 : Cond.classLink "WornWigs$Reader" (28 : Nat) "WornWigs$Law" ∈ wg_T := wg_T_of (wg_t2 (List.mem_of_getElem? (i := 154) rfl)) rfl
theorem wq_2_156 : Cond.classLink "WornWigs$Reader" (35 : Nat) "WornWigs$Lines" ∈ wg_T := wg_T_of (wg_t2 (List.mem_of_getElem? (i := 156) rfl)) rfl
theorem wq_2_157 : Cond.methodLink "WornWigs$Reader" 37 yX4_init ∈ wg_T := wg_T_of (wg_t2 (List.mem_of_getElem? (i := 157) rfl)) rfl
theorem wq_2_216 : Cond.methodLink "WornWigs$Court" 3 ⟨"java/lang/Object", "<init>", "()V"⟩ ∈ wg_T := wg_T_of (wg_t2 (List.mem_of_getElem? (i := 216) rfl)) rfl
theorem wq_2_217 : Cond.classLink "WornWigs$Court" (9 : Nat) "WornWigs$Bench" ∈ wg_T := wg_T_of (wg_t2 (List.mem_of_getElem? (i := 217) rfl)) rfl
theorem wq_2_87 : Cond.fieldLink "WornWigs$Court" 22 "WornWigs$World" "bench" "LWornWigs$Bench;" ∈ wg_T := wg_T_of (wg_t2 (List.mem_of_getElem? (i := 87) rfl)) rfl
theorem wq_1_142 : Cond.fieldLink "WornWigs$Court" 28 "WornWigs$Bench" "wigs" "LWornWigs$Wigs;" ∈ wg_T := wg_T_of (wg_t1 (List.mem_of_getElem? (i := 142) rfl)) rfl
theorem wq_1_147 : Cond.fieldLink "WornWigs$Court" 33 "WornWigs$Bench" "judges" "LWornWigs$Judges;" ∈ wg_T := wg_T_of (wg_t1 (List.mem_of_getElem? (i := 147) rfl)) rfl
theorem wq_2_95 : Cond.fieldLink "WornWigs$Court" 38 "WornWigs$World" "law" "LWornWigs$Law;" ∈ wg_T := wg_T_of (wg_t2 (List.mem_of_getElem? (i := 95) rfl)) rfl
theorem wq_3_6 : Cond.methodLink "WornWigs$Thought" 3 ⟨"java/lang/Object", "<init>", "()V"⟩ ∈ wg_T := wg_T_of (wg_t3 (List.mem_of_getElem? (i := 6) rfl)) rfl
theorem wq_1_27 : Cond.methodLink "WornWigs" 3 ⟨"java/lang/Object", "<init>", "()V"⟩ ∈ wg_T := wg_T_of (wg_t1 (List.mem_of_getElem? (i := 27) rfl)) rfl
theorem wq_1_30 : Cond.classLink "WornWigs" (9 : Nat) "WornWigs$World" ∈ wg_T := wg_T_of (wg_t1 (List.mem_of_getElem? (i := 30) rfl)) rfl
theorem wq_1_31 : Cond.instantiable "WornWigs$World" (7 : Nat) ∈ wg_T := wg_T_of (wg_t1 (List.mem_of_getElem? (i := 31) rfl)) rfl
theorem wq_1_33 : Cond.instanceMethod yX10_init ∈ wg_T := wg_T_of (wg_t1 (List.mem_of_getElem? (i := 33) rfl)) rfl
theorem wq_1_34 : Cond.code yX10_init prog_12_method_1_code 1 (Option.none : Option Jvm.ClassFile.FieldType) ∈ wg_T := wg_T_of (wg_t1 (List.mem_of_getElem? (i := 34) rfl)) rfl
theorem wq_2_128 : Cond.classLink "WornWigs" (19 : Nat) "WornWigs$Past" ∈ wg_T := wg_T_of (wg_t2 (List.mem_of_getElem? (i := 128) rfl)) rfl
theorem wq_2_129 : Cond.instantiable "WornWigs$Past" (3 : Nat) ∈ wg_T := wg_T_of (wg_t2 (List.mem_of_getElem? (i := 129) rfl)) rfl
theorem wq_2_130 : Cond.methodLink "WornWigs" 21 yX5_init ∈ wg_T := wg_T_of (wg_t2 (List.mem_of_getElem? (i := 130) rfl)) rfl
theorem wq_2_131 : Cond.instanceMethod yX5_init ∈ wg_T := wg_T_of (wg_t2 (List.mem_of_getElem? (i := 131) rfl)) rfl
theorem wq_2_132 : Cond.code yX5_init prog_7_method_1_code 2 (Option.none : Option Jvm.ClassFile.FieldType) ∈ wg_T := wg_T_of (wg_t2 (List.mem_of_getElem? (i := 132) rfl)) rfl
theorem wq_2_148 : Cond.classLink "WornWigs" (26 : Nat) "WornWigs$Reader" ∈ wg_T := wg_T_of (wg_t2 (List.mem_of_getElem? (i := 148) rfl)) rfl
theorem wq_2_149 : Cond.instantiable "WornWigs$Reader" (16 : Nat) ∈ wg_T := wg_T_of (wg_t2 (List.mem_of_getElem? (i := 149) rfl)) rfl
theorem wq_2_150 : Cond.methodLink "WornWigs" 28 yX6_init ∈ wg_T := wg_T_of (wg_t2 (List.mem_of_getElem? (i := 150) rfl)) rfl
theorem wq_2_151 : Cond.instanceMethod yX6_init ∈ wg_T := wg_T_of (wg_t2 (List.mem_of_getElem? (i := 151) rfl)) rfl
theorem wq_2_152 : Cond.code yX6_init prog_8_method_1_code 2 (Option.none : Option Jvm.ClassFile.FieldType) ∈ wg_T := wg_T_of (wg_t2 (List.mem_of_getElem? (i := 152) rfl)) rfl
theorem wq_2_211 : Cond.classLink "WornWigs" (35 : Nat) "WornWigs$Court" ∈ wg_T := wg_T_of (wg_t2 (List.mem_of_getElem? (i := 211) rfl)) rfl
theorem wq_2_212 : Cond.instantiable "WornWigs$Court" (7 : Nat) ∈ wg_T := wg_T_of (wg_t2 (List.mem_of_getElem? (i := 212) rfl)) rfl
theorem wq_2_213 : Cond.methodLink "WornWigs" 37 yX1_init ∈ wg_T := wg_T_of (wg_t2 (List.mem_of_getElem? (i := 213) rfl)) rfl
theorem wq_2_214 : Cond.instanceMethod yX1_init ∈ wg_T := wg_T_of (wg_t2 (List.mem_of_getElem? (i := 214) rfl)) rfl
theorem wq_2_215 : Cond.code yX1_init prog_3_method_1_code 2 (Option.none : Option Jvm.ClassFile.FieldType) ∈ wg_T := wg_T_of (wg_t2 (List.mem_of_getElem? (i := 215) rfl)) rfl
theorem wq_3_1 : Cond.classLink "WornWigs" (42 : Nat) "WornWigs$Thought" ∈ wg_T := wg_T_of (wg_t3 (List.mem_of_getElem? (i := 1) rfl)) rfl
theorem wq_3_2 : Cond.instantiable "WornWigs$Thought" (2 : Nat) ∈ wg_T := wg_T_of (wg_t3 (List.mem_of_getElem? (i := 2) rfl)) rfl
theorem wq_3_3 : Cond.methodLink "WornWigs" 44 yX7_init ∈ wg_T := wg_T_of (wg_t3 (List.mem_of_getElem? (i := 3) rfl)) rfl
theorem wq_3_4 : Cond.instanceMethod yX7_init ∈ wg_T := wg_T_of (wg_t3 (List.mem_of_getElem? (i := 4) rfl)) rfl
theorem wq_3_5 : Cond.code yX7_init prog_9_method_1_code 3 (Option.none : Option Jvm.ClassFile.FieldType) ∈ wg_T := wg_T_of (wg_t3 (List.mem_of_getElem? (i := 5) rfl)) rfl
theorem wq_6_125 : Cond.methodLink "WornWigsModel" 1 ⟨"java/lang/Object", "<init>", "()V"⟩ ∈ wg_T := wg_T_of (wg_t6 (List.mem_of_getElem? (i := 125) rfl)) rfl
theorem wq_1_101 : Cond.arrayClass FieldType.int ∈ wg_T := wg_T_of (wg_t1 (List.mem_of_getElem? (i := 101) rfl)) rfl
theorem wq_arr : Cond.arrayClass .int ∈ wg_T := wq_1_101
theorem wf_X1_22 : wg_F "WornWigs$Court" 22 10 0 3 := ⟨RX10, TX10, 7, tyX10, wc_10, by decide, wq_2_87, rfl⟩
theorem wf_X1_28 : wg_F "WornWigs$Court" 28 0 0 12 := ⟨RX0, TX0, 10, tyX0, wc_0, by decide, wq_1_142, rfl⟩
theorem wf_X1_33 : wg_F "WornWigs$Court" 33 0 1 5 := ⟨RX0, TX0, 10, tyX0, wc_0, by decide, wq_1_147, rfl⟩
theorem wf_X1_38 : wg_F "WornWigs$Court" 38 10 2 6 := ⟨RX10, TX10, 7, tyX10, wc_10, by decide, wq_2_95, rfl⟩
theorem wy_X9_init : wg_Y yX9_init cX9_init 1 (none) 0 := ⟨wq_1_4, wq_1_46, by decide +kernel⟩
theorem wy_X2_init : wg_Y yX2_init cX2_init 1 (none) 0 := ⟨wq_1_5, wq_1_106, by decide +kernel⟩
theorem wy_X0_init : wg_Y yX0_init cX0_init 1 (none) 0 := ⟨wq_1_3, wq_1_40, by decide +kernel⟩
theorem wy_X4_init : wg_Y yX4_init cX4_init 3 (none) 1 := ⟨wq_1_6, wq_1_199, by decide +kernel⟩
theorem wy_X3_init : wg_Y yX3_init cX3_init 1 (none) 0 := ⟨wq_1_8, wq_1_238, by decide +kernel⟩
theorem wy_X8_init : wg_Y yX8_init cX8_init 1 (none) 0 := ⟨wq_1_9, wq_2_39, by decide +kernel⟩
theorem wy_X10_init : wg_Y yX10_init cX10_init 1 (none) 0 := ⟨wq_1_2, wq_1_34, by decide +kernel⟩
theorem wy_X5_init : wg_Y yX5_init cX5_init 2 (none) 0 := ⟨wq_1_10, wq_2_132, by decide +kernel⟩
theorem wy_X6_init : wg_Y yX6_init cX6_init 2 (none) 1 := ⟨wq_1_11, wq_2_152, by decide +kernel⟩
theorem wy_X1_init : wg_Y yX1_init cX1_init 2 (none) 1 := ⟨wq_1_12, wq_2_215, by decide +kernel⟩
theorem wy_X7_init : wg_Y yX7_init cX7_init 3 (none) 2 := ⟨wq_1_13, wq_3_5, by decide +kernel⟩
/-! CONSTRUCTORS: a world that grows. A cell: its kind (as in the shapes), its length, what it holds: .inl an int, .inr none null, .inr (some j) the cell j -/
abbrev wc_V : Type := Int32 ⊕ Option Nat
abbrev wc_X : Type := Nat × Nat × List wc_V
abbrev wc_W : Type := List wc_X
abbrev wc_F : Type := va_G × ClassId × ClassId × Nat
def wc_v (ad : Nat → Nat) : wc_V → Value
  | .inl x => .int x
  | .inr o => va_rf (o.map ad)
def wc_ce (F : wc_F) (ad : Nat → Nat) (q : wc_X) : va_E := match q with
  | (0, n, fs) => .inl (F.2.1, n, .inl (fun i => match fs.getD i (.inl 0) with | .inl x => x | .inr _ => 0))
  | (1, n, fs) => .inl (F.2.2.1, n, .inr (.inr (.inr (.inr (fun i => match fs.getD i (.inr none) with | .inr o => o.map ad | .inl _ => none)))))
  | (c + 2, _, fs) => .inr (c, fs.map (wc_v ad))
def wc_w (F : wc_F) (ad : Nat → Nat) (w : wc_W) : va_W := w.mapIdx (fun k q => (ad k, wc_ce F ad q))
theorem wc_w_get {F : wc_F} {ad : Nat → Nat} {w : wc_W} {k : Nat} {q : wc_X} (h : w[k]? = some q) : (wc_w F ad w)[k]? = some (ad k, wc_ce F ad q) := by
  simp [wc_w, List.getElem?_mapIdx, h]
theorem wc_w_push {F : wc_F} {ad : Nat → Nat} {w : wc_W} {q : wc_X} : wc_w F ad (w ++ [q]) = wc_w F ad w ++ [(ad w.length, wc_ce F ad q)] := by
  simp [wc_w, List.mapIdx_append]
theorem wc_w_set {F : wc_F} {ad : Nat → Nat} {w : wc_W} {k : Nat} {q : wc_X} : (wc_w F ad w).set k (ad k, wc_ce F ad q) = wc_w F ad (w.set k q) := by
  apply List.ext_getElem?
  intro j
  simp only [wc_w, List.getElem?_set, List.getElem?_mapIdx, List.length_mapIdx]
  by_cases hj : k = j
  · subst hj
    simp only [if_true]
    split <;> simp
  · simp [hj]
/-- every cell that is named is there -/
def wc_in (w : wc_W) : Prop := ∀ (k : Nat) (q : wc_X), w[k]? = some q → ∀ j, .inr (some j) ∈ q.2.2 → j < w.length
theorem wc_in_nil : wc_in [] := fun k q h => by simp at h
theorem wc_in_push {w : wc_W} {q : wc_X} (h : wc_in w) (hq : ∀ j, .inr (some j) ∈ q.2.2 → j < w.length + 1) : wc_in (w ++ [q]) := by
  intro k q' hk j hj
  rw [List.length_append, List.length_singleton]
  rw [List.getElem?_append] at hk
  split at hk
  · have := h k q' hk j hj
    omega
  · have hk2 : k - w.length < 1 := (List.getElem?_eq_some_iff.mp hk).1
    rw [show k - w.length = 0 by omega] at hk
    cases hk
    exact hq j hj
theorem wc_in_set {w : wc_W} {k : Nat} {q : wc_X} (h : wc_in w) (hq : ∀ j, .inr (some j) ∈ q.2.2 → j < w.length) : wc_in (w.set k q) := by
  intro i q' hi j hj
  rw [List.length_set]
  rw [List.getElem?_set] at hi
  split at hi
  · split at hi
    · cases hi; exact hq j hj
    · cases hi
  · exact h i q' hi j hj
theorem wc_v_congr {ad ad' : Nat → Nat} {v : wc_V} {n : Nat} (h : ∀ j, j < n → ad' j = ad j) (hv : ∀ j, v = .inr (some j) → j < n) : wc_v ad' v = wc_v ad v := by
  cases v with
  | inl x => rfl
  | inr o => cases o with
    | none => rfl
    | some j => simp [wc_v, h j (hv j rfl)]
theorem wc_ce_congr {F : wc_F} {ad ad' : Nat → Nat} {q : wc_X} {n : Nat} (h : ∀ j, j < n → ad' j = ad j) (hq : ∀ j, .inr (some j) ∈ q.2.2 → j < n) : wc_ce F ad' q = wc_ce F ad q := by
  obtain ⟨t, l, fs⟩ := q
  match t with
  | 0 => rfl
  | 1 =>
    have ef : (fun i => match fs.getD i (.inr none) with | .inr o => o.map ad' | .inl _ => none : Nat → Option Nat) = (fun i => match fs.getD i (.inr none) with | .inr o => o.map ad | .inl _ => none) := by
      funext i
      rw [List.getD_eq_getElem?_getD]
      cases hi : fs[i]? with
      | none => rfl
      | some v =>
        cases v with
        | inl x => rfl
        | inr o => cases o with
          | none => rfl
          | some j => simp [h j (hq j (List.mem_of_getElem? hi))]
    simp only [wc_ce]
    rw [ef]
  | c + 2 =>
    simp only [wc_ce]
    congr 2
    exact List.map_congr_left (fun v hv => wc_v_congr h (fun j e => hq j (e ▸ hv)))
theorem wc_w_congr {F : wc_F} {ad ad' : Nat → Nat} {w : wc_W} (hin : wc_in w) (h : ∀ j, j < w.length → ad' j = ad j) : wc_w F ad' w = wc_w F ad w := by
  apply List.ext_getElem?
  intro k
  simp only [wc_w, List.getElem?_mapIdx]
  cases hk : w[k]? with
  | none => rfl
  | some q =>
    have hl : k < w.length := (List.getElem?_eq_some_iff.mp hk).1
    simp [h k hl, wc_ce_congr (F := F) h (fun j hj => hin k q hk j hj)]
def wc_up (ad : Nat → Nat) (n q : Nat) : Nat → Nat := fun j => if j = n then q else ad j
theorem wc_up_lt {ad : Nat → Nat} {n q j : Nat} (h : j < n) : wc_up ad n q j = ad j := by simp [wc_up, Nat.ne_of_lt h]
theorem wc_up_eq {ad : Nat → Nat} {n q : Nat} : wc_up ad n q n = q := by simp [wc_up]
def wc_sh (ad : Nat → Nat) : Value → Value
  | .ref k => .ref (ad k)
  | .int x => .int x
  | _ => .null
theorem wc_sh_cat (ad : Nat → Nat) (v : Value) : (wc_sh ad v).category = 1 := by cases v <;> rfl
def wc_lt (n : Nat) : List Value → Prop
  | [] => True
  | .ref k :: vs => k < n ∧ wc_lt n vs
  | _ :: vs => wc_lt n vs
theorem wc_lt_mono {n n' : Nat} (h : n ≤ n') : ∀ {vs : List Value}, wc_lt n vs → wc_lt n' vs
  | [], _ => trivial
  | .ref k :: vs, hv => ⟨Nat.lt_of_lt_of_le hv.1 h, wc_lt_mono h hv.2⟩
  | .int _ :: vs, hv => wc_lt_mono (vs := vs) h hv
  | .long _ :: vs, hv => wc_lt_mono (vs := vs) h hv
  | .float _ :: vs, hv => wc_lt_mono (vs := vs) h hv
  | .double _ :: vs, hv => wc_lt_mono (vs := vs) h hv
  | .null :: vs, hv => wc_lt_mono (vs := vs) h hv
  | .retAddr _ :: vs, hv => wc_lt_mono (vs := vs) h hv
theorem wc_sh_congr {ad ad' : Nat → Nat} {n : Nat} (h : ∀ j, j < n → ad' j = ad j) : ∀ {vs : List Value}, wc_lt n vs → vs.map (wc_sh ad') = vs.map (wc_sh ad)
  | [], _ => rfl
  | .ref k :: vs, hv => by simp [wc_sh, h k hv.1, wc_sh_congr h hv.2]
  | .int _ :: vs, hv => by simp [wc_sh, wc_sh_congr (vs := vs) h hv]
  | .long _ :: vs, hv => by simp [wc_sh, wc_sh_congr (vs := vs) h hv]
  | .float _ :: vs, hv => by simp [wc_sh, wc_sh_congr (vs := vs) h hv]
  | .double _ :: vs, hv => by simp [wc_sh, wc_sh_congr (vs := vs) h hv]
  | .null :: vs, hv => by simp [wc_sh, wc_sh_congr (vs := vs) h hv]
  | .retAddr _ :: vs, hv => by simp [wc_sh, wc_sh_congr (vs := vs) h hv]
def wc_ys (F : wc_F) : List (ClassId × FieldType) := [(F.2.1, .int), (F.2.2.1, .object "WornWigs$Bench")]
/-- from B on all cells are the law's -/
def wc_A (F : wc_F) : Nat → Prop := fun q => F.2.2.2 ≤ q
def wc_Q (F : wc_F) (n0 : Nat) (ad0 : Nat → Nat) (w' : wc_W) : Array Value → State → Outcome → State → Prop := fun _ st oc t => oc = .returned none ∧ (∃ ad : Nat → Nat, (∀ j, j < n0 → ad j = ad0 j) ∧ wc_in w' ∧ va_P F.1 vwCl (wc_w F ad w') t.heap ∧ va_D (wc_A F) (wc_w F ad w')) ∧ va_F (wc_A F) st t
def wc_ls (ad : Nat → Nat) (L : List Value) (ls : Array Slot) (nL : Nat) : Prop := ls.size = nL ∧ lv_wf ls ∧ ∀ (i : Nat) (v : Value), L[i]? = some v → ls[i]? = some (.val (wc_sh ad v))
def wc_G (l : Launch) (F : wc_F) (own : String) (cc : ByteArray) (nL : Nat) (R : Room) (mc ms : Nat) (n0 : Nat) (ad0 : Nat → Nat) (w' : wc_W) (pc : Nat) (L : List Value) (st : List Value) (w : wc_W) (cells slots : Nat) : Prop :=
  ∀ (p : Program) (e : Env) (s : State) (m : MethodId) (args : Array Value) (below : List Frame) (meth : Method) (c : Code) (ad : Nat → Nat) (H : Heap) (locs : List Loc) (ls : Array Slot),
    p.tables.exec = Jvm.exec → c.code = cc → c.maxLocals = nL → meth.sig.returnType = none → meth.locks = false → s.vm.findClass own = some m.cls → meth.name = "<init>" → (∀ w ∈ wg_T, w.before args s = true) → va_K F.1 vwCl (wc_ys F) s → (∀ q ∈ wg_NW, va_Nw (.methodLinkNest q.1 q.2.1 q.2.2 "WornWigs") s) → va_AO "WornWigs$Bench" s → F.2.2.2 ≤ s.heap.size → wc_in w →
    va_P F.1 vwCl (wc_w F ad w) H → va_D (wc_A F) (wc_w F ad w) → va_S (wc_A F) s.heap H locs → (∀ j, j < n0 → ad j = ad0 j) → wc_ls ad L ls nL →
    W p l e R s m args below meth c H locs cells slots (MQ below (wc_Q F n0 ad0 w') args s mc ms (wc_A F)) (F0 m pc ls (st.map (wc_sh ad)))
def wc_MG (l : Launch) (F : wc_F) (y : MethodName) (cc : ByteArray) (nL : Nat) (rm : Room) (mc ms : Nat) (As : List Value) (w w' : wc_W) : Prop :=
  ∀ ad0 : Nat → Nat, Met l y (.code y cc nL none :: wg_T) rm (va_Pc (As.map (wc_sh ad0)) (fun U => F.2.2.2 ≤ U.heap.size ∧ va_K F.1 vwCl (wc_ys F) U ∧ (∀ q ∈ wg_NW, va_Nw (.methodLinkNest q.1 q.2.1 q.2.2 "WornWigs") U) ∧ va_AO "WornWigs$Bench" U ∧ wc_in w ∧ va_P F.1 vwCl (wc_w F ad0 w) U.heap ∧ va_D (wc_A F) (wc_w F ad0 w))) (wc_Q F w.length ad0 w') mc ms (wc_A F)
section WK
variable {l : Launch} {F : wc_F} {own : String} {cc : ByteArray} {nL : Nat} {R : Room} {mc ms n0 : Nat} {ad0 : Nat → Nat} {w' : wc_W} {pc : Nat} {L st : List Value} {w : wc_W} {cells slots : Nat}
theorem wk_aload_n {i : Fin 4} {x : Nat} (hd : decode cc pc = .ok (.aload_n i, 1)) (hv : L[(i : Nat)]? = some (.ref x)) (k : wc_G l F own cc nL R mc ms n0 ad0 w' (pc + 1) L (.ref x :: st) w cells slots) : wc_G l F own cc nL R mc ms n0 ad0 w' pc L st w cells slots :=
  fun p e s m args below meth c ad H locs ls hx hb hml hr hlk ho hnm hts hK hN hAO hB hin hP hD hS hag hL => lv_aload_n hx hb hd rfl (hL.2.2 _ _ hv) (k p e s m args below meth c ad H locs ls hx hb hml hr hlk ho hnm hts hK hN hAO hB hin hP hD hS hag hL)
theorem wk_iload_n {i : Fin 4} {x : Int32} (hd : decode cc pc = .ok (.iload_n i, 1)) (hv : L[(i : Nat)]? = some (.int x)) (k : wc_G l F own cc nL R mc ms n0 ad0 w' (pc + 1) L (.int x :: st) w cells slots) : wc_G l F own cc nL R mc ms n0 ad0 w' pc L st w cells slots :=
  fun p e s m args below meth c ad H locs ls hx hb hml hr hlk ho hnm hts hK hN hAO hB hin hP hD hS hag hL => lv_iload_n hx hb hd rfl (hL.2.2 _ _ hv) (k p e s m args below meth c ad H locs ls hx hb hml hr hlk ho hnm hts hK hN hAO hB hin hP hD hS hag hL)
theorem wk_iconst {n : Int} (v : Int32) (hd : decode cc pc = .ok (.iconst n, 1)) (hv : Int32.ofInt n = v) (k : wc_G l F own cc nL R mc ms n0 ad0 w' (pc + 1) L (.int v :: st) w cells slots) : wc_G l F own cc nL R mc ms n0 ad0 w' pc L st w cells slots :=
  fun p e s m args below meth c ad H locs ls hx hb hml hr hlk ho hnm hts hK hN hAO hB hin hP hD hS hag hL => lv_iconst hx hb hd hv (k p e s m args below meth c ad H locs ls hx hb hml hr hlk ho hnm hts hK hN hAO hB hin hP hD hS hag hL)
theorem wk_bipush {n : Int} (v : Int32) (hd : decode cc pc = .ok (.bipush n, 2)) (hv : (Int8.ofInt n).toInt32 = v) (k : wc_G l F own cc nL R mc ms n0 ad0 w' (pc + 2) L (.int v :: st) w cells slots) : wc_G l F own cc nL R mc ms n0 ad0 w' pc L st w cells slots :=
  fun p e s m args below meth c ad H locs ls hx hb hml hr hlk ho hnm hts hK hN hAO hB hin hP hD hS hag hL => lv_bipush hx hb hd hv (k p e s m args below meth c ad H locs ls hx hb hml hr hlk ho hnm hts hK hN hAO hB hin hP hD hS hag hL)
theorem wk_sipush {n : Int} (v : Int32) (hd : decode cc pc = .ok (.sipush n, 3)) (hv : (Int16.ofInt n).toInt32 = v) (k : wc_G l F own cc nL R mc ms n0 ad0 w' (pc + 3) L (.int v :: st) w cells slots) : wc_G l F own cc nL R mc ms n0 ad0 w' pc L st w cells slots :=
  fun p e s m args below meth c ad H locs ls hx hb hml hr hlk ho hnm hts hK hN hAO hB hin hP hD hS hag hL => lv_sipush hx hb hd hv (k p e s m args below meth c ad H locs ls hx hb hml hr hlk ho hnm hts hK hN hAO hB hin hP hD hS hag hL)
theorem wk_dup {v : Value} (hd : decode cc pc = .ok (.dup, 1)) (k : wc_G l F own cc nL R mc ms n0 ad0 w' (pc + 1) L (v :: v :: st) w cells slots) : wc_G l F own cc nL R mc ms n0 ad0 w' pc L (v :: st) w cells slots :=
  fun p e s m args below meth c ad H locs ls hx hb hml hr hlk ho hnm hts hK hN hAO hB hin hP hD hS hag hL => lv_dup hx hb hd (wc_sh_cat ad v) (k p e s m args below meth c ad H locs ls hx hb hml hr hlk ho hnm hts hK hN hAO hB hin hP hD hS hag hL)
theorem wk_goto {off : Int} (tgt : Nat) (hd : decode cc pc = .ok (.goto off, 3)) (ht : (pc : Int) + off = (tgt : Int)) (k : wc_G l F own cc nL R mc ms n0 ad0 w' tgt L st w cells slots) : wc_G l F own cc nL R mc ms n0 ad0 w' pc L st w cells slots :=
  fun p e s m args below meth c ad H locs ls hx hb hml hr hlk ho hnm hts hK hN hAO hB hin hP hD hS hag hL => lv_goto hx hb hd ht (k p e s m args below meth c ad H locs ls hx hb hml hr hlk ho hnm hts hK hN hAO hB hin hP hD hS hag hL)
theorem wk_geY {x y : Int32} {off : Int} (tgt : Nat) (hd : decode cc pc = .ok (.if_icmp .ge off, 3)) (ht : (pc : Int) + off = (tgt : Int)) (hc : y ≤ x) (k : wc_G l F own cc nL R mc ms n0 ad0 w' tgt L st w cells slots) : wc_G l F own cc nL R mc ms n0 ad0 w' pc L (.int y :: .int x :: st) w cells slots :=
  fun p e s m args below meth c ad H locs ls hx hb hml hr hlk ho hnm hts hK hN hAO hB hin hP hD hS hag hL => lv_icmp_ge hx hb hd ht (fun _ => k p e s m args below meth c ad H locs ls hx hb hml hr hlk ho hnm hts hK hN hAO hB hin hP hD hS hag hL) (fun h => absurd hc h)
theorem wk_geN {x y : Int32} {off : Int} (tgt : Nat) (hd : decode cc pc = .ok (.if_icmp .ge off, 3)) (ht : (pc : Int) + off = (tgt : Int)) (hc : ¬ y ≤ x) (k : wc_G l F own cc nL R mc ms n0 ad0 w' (pc + 3) L st w cells slots) : wc_G l F own cc nL R mc ms n0 ad0 w' pc L (.int y :: .int x :: st) w cells slots :=
  fun p e s m args below meth c ad H locs ls hx hb hml hr hlk ho hnm hts hK hN hAO hB hin hP hD hS hag hL => lv_icmp_ge hx hb hd ht (fun h => absurd h hc) (fun _ => k p e s m args below meth c ad H locs ls hx hb hml hr hlk ho hnm hts hK hN hAO hB hin hP hD hS hag hL)
theorem wc_ls_set {ad : Nat → Nat} {ls ls2 : Array Slot} {i : Nat} {x : Int32} (hL : wc_ls ad L ls nL) (hl2 : lv_has ls2 nL ((i, .int x) :: [])) (ho : ∀ (j : Nat), j ≠ i → ∀ v, ls[j]? = some (.val v) → v.category = 1 → ls2[j]? = some (.val v)) : wc_ls ad (L.set i (.int x)) ls2 nL := by
  refine ⟨hl2.1, hl2.2.1, fun j v hv => ?_⟩
  by_cases hj : j = i
  · subst hj
    rw [List.getElem?_set] at hv
    split at hv
    · split at hv
      · cases hv
        exact hl2.2.2 (j, .int x) List.mem_cons_self
      · cases hv
    · next h => exact absurd rfl h
  · rw [List.getElem?_set_ne (Ne.symm hj)] at hv
    exact ho j hj _ (hL.2.2 j v hv) (wc_sh_cat ad v)
def wc_al (ad : Nat → Nat) (L : List Value) : List (Nat × Value) := (L.map (wc_sh ad)).zipIdx.map (fun q => (q.2, q.1))
theorem wc_al_mem {ad : Nat → Nat} {q : Nat × Value} : q ∈ wc_al ad L ↔ ∃ v, L[q.1]? = some v ∧ q.2 = wc_sh ad v := by
  obtain ⟨i, v⟩ := q
  simp only [wc_al, List.mem_map, Prod.mk.injEq, Prod.exists]
  constructor
  · rintro ⟨a, b, hab, rfl, rfl⟩
    have h := List.mem_zipIdx_iff_getElem?.mp hab
    simp only [List.getElem?_map] at h
    cases hb : L[b]? with
    | none => rw [hb] at h; cases h
    | some v => rw [hb] at h; cases h; exact ⟨v, rfl, rfl⟩
  · rintro ⟨v', h1, rfl⟩
    refine ⟨_, _, List.mem_zipIdx_iff_getElem?.mpr ?_, rfl, rfl⟩
    simp [h1]
theorem wc_ls_has {ad : Nat → Nat} {ls : Array Slot} (hL : wc_ls ad L ls nL) : lv_has ls nL (wc_al ad L) := ⟨hL.1, hL.2.1, fun q hq => by
  obtain ⟨v, h1, h2⟩ := wc_al_mem.mp hq
  rw [h2]
  exact hL.2.2 _ _ h1⟩
theorem wc_has_ls {ad : Nat → Nat} {ls : Array Slot} {i : Nat} {v : Value} (h : lv_has ls nL ((i, wc_sh ad v) :: (wc_al ad L).filter (fun q => !(q.1 == i) && !(q.1 + 1 == i && q.2.category == 2)))) : wc_ls ad (L.set i v) ls nL := by
  refine ⟨h.1, h.2.1, fun j x hx => ?_⟩
  by_cases hj : j = i
  · subst hj
    rw [List.getElem?_set] at hx
    split at hx
    · split at hx
      · have hxv := Option.some.inj hx
        rw [← hxv]
        exact h.2.2 (j, wc_sh ad v) List.mem_cons_self
      · cases hx
    · next hne => exact absurd rfl hne
  · rw [List.getElem?_set_ne (Ne.symm hj)] at hx
    refine h.2.2 (j, wc_sh ad x) (List.mem_cons_of_mem _ (List.mem_filter.mpr ⟨wc_al_mem.mpr ⟨x, hx, rfl⟩, ?_⟩))
    simp [hj, wc_sh_cat]
theorem wk_istore_n {i : Fin 4} {x : Int32} (hd : decode cc pc = .ok (.istore_n i, 1)) (hn : (i : Nat) < nL) (k : wc_G l F own cc nL R mc ms n0 ad0 w' (pc + 1) (L.set i (.int x)) st w cells slots) : wc_G l F own cc nL R mc ms n0 ad0 w' pc L (.int x :: st) w cells slots :=
  fun p e s m args below meth c ad H locs ls hx hb hml hr hlk ho hnm hts hK hN hAO hB hin hP hD hS hag hL => lv_istore_n hx hb hd rfl (wc_ls_has hL) hn rfl (fun ls2 hl2 => k p e s m args below meth c ad H locs ls2 hx hb hml hr hlk ho hnm hts hK hN hAO hB hin hP hD hS hag (wc_has_ls hl2))
theorem wk_iinc {i : Nat} {n : Int} {x y : Int32} (hd : decode cc pc = .ok (.iinc i n, 3)) (hv : L[i]? = some (.int x)) (hn : i < nL) (hc : x + Int32.ofInt n = y) (k : wc_G l F own cc nL R mc ms n0 ad0 w' (pc + 3) (L.set i (.int y)) st w cells slots) : wc_G l F own cc nL R mc ms n0 ad0 w' pc L st w cells slots := by
  intro p e s m args below meth c ad H locs ls hx hb hml hr hlk ho hnm hts hK hN hAO hB hin hP hD hS hag hL
  obtain ⟨q, hq⟩ := List.mem_iff_getElem?.mp (wc_al_mem (ad := ad) (L := L) (q := (i, .int x)) |>.mpr ⟨.int x, hv, rfl⟩)
  exact lv_iinc (v := y) hx hb hd (wc_ls_has hL) hq hc hn rfl (fun ls2 hl2 => k p e s m args below meth c ad H locs ls2 hx hb hml hr hlk ho hnm hts hK hN hAO hB hin hP hD hS hag (wc_has_ls (v := .int y) hl2))
theorem wk_obj {idx x : Nat} (hd : decode cc pc = .ok (.invokespecial idx, 3)) (hw : Cond.methodLink own idx Lib.objectInit ∈ wg_T ∧ Cond.instanceMethod Lib.objectInit ∈ wg_T ∧ Cond.code Lib.objectInit ⟨#[0xb1]⟩ 1 none ∈ wg_T) (hf : 1 ≤ R.frames) (hlo : st.length + 12 ≤ R.locals) (k : wc_G l F own cc nL R mc ms n0 ad0 w' (pc + 3) L st w cells slots) : wc_G l F own cc nL R mc ms n0 ad0 w' pc L (.ref x :: st) w cells slots := by
  intro p e s m args below meth c ad H locs ls hx hb hml hr hlk ho hnm hts hK hN hAO hB hin hP hD hS hag hL
  have hc : ((st.map (wc_sh ad)).map fun v => v.category).sum = st.length := by
    clear k
    induction st with
    | nil => rfl
    | cons a as ih => simp only [List.map_cons, List.sum_cons, wc_sh_cat, List.length_cons] at ih ⊢; have := ih (by simp at hlo; omega); omega
  exact W.objInit hx hb ho (hts _ hw.1) (hts _ hw.2.1) (hts _ hw.2.2) rfl (by rw [hml]; exact hL.1) rfl hd hf (by rw [hc]; simpa using hlo) (k p e s m args below meth c ad H locs ls hx hb hml hr hlk ho hnm hts hK hN hAO hB hin hP hD hS hag hL)
/-- a cell that is new -/
theorem wc_grow {ad : Nat → Nat} {q : Nat} {x : wc_X} {H : Heap} (hin : wc_in w) (hx : ∀ j, .inr (some j) ∈ x.2.2 → j < w.length) (h : va_P F.1 vwCl (wc_w F ad w ++ [(q, wc_ce F ad x)]) H) (hd : va_D (wc_A F) (wc_w F ad w ++ [(q, wc_ce F ad x)])) : va_P F.1 vwCl (wc_w F (wc_up ad w.length q) (w ++ [x])) H ∧ va_D (wc_A F) (wc_w F (wc_up ad w.length q) (w ++ [x])) := by
  have e : wc_w F (wc_up ad w.length q) (w ++ [x]) = wc_w F ad w ++ [(q, wc_ce F ad x)] := by
    rw [wc_w_push, wc_w_congr hin (fun j hj => wc_up_lt hj), wc_up_eq, wc_ce_congr (n := w.length) (fun j hj => wc_up_lt hj) hx]
  rw [e]
  exact ⟨h, hd⟩
theorem wc_ls_up {ad : Nat → Nat} {ls : Array Slot} {n q : Nat} (hL : wc_ls ad L ls nL) (hl : wc_lt n L) : wc_ls (wc_up ad n q) L ls nL := by
  refine ⟨hL.1, hL.2.1, fun i v hv => ?_⟩
  have h1 : L.map (wc_sh (wc_up ad n q)) = L.map (wc_sh ad) := wc_sh_congr (fun j hj => wc_up_lt hj) hl
  have h2 : (L.map (wc_sh (wc_up ad n q)))[i]? = some (wc_sh (wc_up ad n q) v) := by simp [hv]
  rw [h1] at h2
  simp only [List.getElem?_map, hv, Option.map_some, Option.some.injEq] at h2
  rw [← h2]
  exact hL.2.2 i v hv
def wc_df (ci : Nat) : List wc_V := (wg_pt ci).map (fun t => if t = 0 then .inl 0 else .inr none)
theorem wk_new {idx ci : Nat} {C : String} {T : u_T} {N : Nat} {ty : Nat → FieldType} (hCl : wg_C ci C T N ty) (hd : decode cc pc = .ok (.new idx, 3)) (hw : Cond.classLink own idx C ∈ wg_T ∧ Cond.instantiable C N ∈ wg_T ∧ Cond.initialized C ∈ wg_T) (hdf : ∀ (ad : Nat → Nat) (j : Nat), j < N → defaultValue (ty j) = vp_V ((wc_df ci).map (wc_v ad)) j) (hnr : ∀ j, .inr (some j) ∉ wc_df ci) (hc : cells + 1 ≤ R.cells) (hs : slots + N ≤ R.slots) (hlL : wc_lt w.length L) (hls : wc_lt w.length st) (hn0 : n0 ≤ w.length) (k : wc_G l F own cc nL R mc ms n0 ad0 w' (pc + 3) L (.ref w.length :: st) (w ++ [(ci + 2, 0, wc_df ci)]) (cells + 1) (slots + N)) : wc_G l F own cc nL R mc ms n0 ad0 w' pc L st w cells slots := by
  intro p e s m args below meth c ad H locs ls hx hb hml hr hlk ho hnm hts hK hN hAO hB hin hP hD hS hag hL
  obtain ⟨h1, h2, h3, h4, h5⟩ := hCl
  refine va_new (D := F.1) (cl := vwCl) (tys := wc_ys F) (ws := wc_w F ad w) (ci := ci) (fs := (wc_df ci).map (wc_v ad)) (C := C) (T := T) (N := N) hx hb hts h2 ty h3 ho (hts _ hw.1) (hts _ hw.2.1) (hts _ hw.2.2) hK hP hD hS (fun q hq => Nat.le_trans hB hq) h1 (hdf ad) hc hs hd (fun q H1 hP1 hD1 hS1 => ?_)
  obtain ⟨hP2, hD2⟩ := wc_grow (x := (ci + 2, 0, wc_df ci)) hin (fun j hj => absurd hj (hnr j)) hP1 hD1
  have e := k p e s m args below meth c (wc_up ad w.length q) H1 locs ls hx hb hml hr hlk ho hnm hts hK hN hAO hB (wc_in_push hin (fun j hj => absurd hj (hnr j))) hP2 hD2 hS1 (fun j hj => (wc_up_lt (by omega)).trans (hag j hj)) (wc_ls_up hL hlL)
  rw [List.map_cons, wc_sh_congr (vs := st) (fun j hj => wc_up_lt hj) hls] at e
  simp only [wc_sh, wc_up_eq] at e
  exact e
theorem wk_newa {n : Int32} (N' : Nat) (hd : decode cc pc = .ok (.newarray .int, 2)) (hw : Cond.arrayClass .int ∈ wg_T) (hn : ¬ n < 0) (hNn : n.toNatClampNeg = N') (hby : N' * 4 ≤ 536870912) (hc : cells + 1 ≤ R.cells) (hs : slots + N' ≤ R.slots) (hlL : wc_lt w.length L) (hls : wc_lt w.length st) (hn0 : n0 ≤ w.length) (k : wc_G l F own cc nL R mc ms n0 ad0 w' (pc + 2) L (.ref w.length :: st) (w ++ [(0, N', [])]) (cells + 1) (slots + N')) : wc_G l F own cc nL R mc ms n0 ad0 w' pc L (.int n :: st) w cells slots := by
  intro p e s m args below meth c ad H locs ls hx hb hml hr hlk ho hnm hts hK hN hAO hB hin hP hD hS hag hL
  refine va_newa (atype := .int) (D := F.1) (cl := vwCl) (tys := wc_ys F) (ws := wc_w F ad w) (ty := .int) (a0 := (N', .inl (fun _ => 0))) (N' := N') hx hb (hts _ hw) rfl hK hP hD hS (fun q hq => Nat.le_trans hB hq) (fun cA => rfl) hn hNn hby hc hs hd (fun q cA H1 hK1 hP1 hD1 hS1 => ?_)
  have hcA : cA = F.2.1 := by
    have a1 := (hK1.2 2 (cA, .int) rfl).2
    have a2 := (hK.2 0 (F.2.1, .int) rfl).2
    exact Option.some.inj (a1.symm.trans a2)
  subst hcA
  obtain ⟨hP2, hD2⟩ := wc_grow (x := (0, N', [])) hin (fun j hj => by cases hj) hP1 hD1
  have e := k p e s m args below meth c (wc_up ad w.length q) H1 locs ls hx hb hml hr hlk ho hnm hts hK hN hAO hB (wc_in_push hin (fun j hj => by cases hj)) hP2 hD2 hS1 (fun j hj => (wc_up_lt (by omega)).trans (hag j hj)) (wc_ls_up hL hlL)
  rw [List.map_cons, wc_sh_congr (vs := st) (fun j hj => wc_up_lt hj) hls] at e
  simp only [wc_sh, wc_up_eq] at e
  exact e
theorem wc_map_set {ad : Nat → Nat} {fs : List wc_V} {i : Nat} {v : wc_V} : (fs.map (wc_v ad)).set i (wc_v ad v) = (fs.set i v).map (wc_v ad) := by
  rw [List.map_set]
theorem wk_putR {idx ci i x j : Nat} {C : String} {T : u_T} {N : Nat} {ty : Nat → FieldType} {fs : List wc_V} {t : FieldType} (hCl : wg_C ci C T N ty) (hd : decode cc pc = .ok (.putfield idx, 3)) (hg : w[x]? = some (ci + 2, 0, fs)) (hi : i < N) (hw : Cond.fieldLink own idx (T i).1 (T i).2.1 (T i).2.2.1 ∈ wg_T) (hfin : (T i).2.2.2 = true) (hdecl : (T i).1 = own) (hdt : parseFieldDescriptor (T i).2.2.1 = some t) (hnar : ∀ a : Nat, narrow t (.ref a) = .ref a ∧ fits t (.ref a) = true) (hfl : i < fs.length) (hj : j < w.length) (k : wc_G l F own cc nL R mc ms n0 ad0 w' (pc + 3) L st (w.set x (ci + 2, 0, fs.set i (.inr (some j)))) cells slots) : wc_G l F own cc nL R mc ms n0 ad0 w' pc L (.ref j :: .ref x :: st) w cells slots := by
  intro p e s m args below meth c ad H locs ls hx hb hml hr hlk ho hnm hts hK hN hAO hB hin hP hD hS hag hL
  obtain ⟨h1, h2, h3, h4, h5⟩ := hCl
  refine va_putF (D := F.1) (cl := vwCl) (tys := wc_ys F) (ws := wc_w F ad w) (C := C) (T := T) (N := N) (ci := ci) (v := .ref (ad j)) (ty := t) (fs := fs.map (wc_v ad)) hx hb hts h2 ty h3 h4 ho hK hP hD hS x (wc_w_get hg) h1 i hi (hts _ hw) (fun _ h9 => h9) hfin hnm hdecl hdt (hnar _).1 (hnar _).2 (by rw [List.length_map]; exact hfl) hd (fun H1 locs1 hP1 hD1 hS1 => ?_)
  have e0 : (wc_w F ad w).set x (ad x, .inr (ci, (fs.map (wc_v ad)).set i (.ref (ad j)))) = wc_w F ad (w.set x (ci + 2, 0, fs.set i (.inr (some j)))) := by
    rw [← wc_w_set]
    show _ = (wc_w F ad w).set x (ad x, .inr (ci, (fs.set i (.inr (some j))).map (wc_v ad)))
    rw [← wc_map_set]
    rfl
  rw [e0] at hP1 hD1
  refine k p e s m args below meth c ad H1 locs1 ls hx hb hml hr hlk ho hnm hts hK hN hAO hB (wc_in_set hin (fun j' hj' => ?_)) hP1 hD1 hS1 hag hL
  rcases List.mem_or_eq_of_mem_set hj' with h | h
  · exact hin x _ hg j' h
  · cases h; exact hj
theorem wk_putI {idx ci i x : Nat} {v : Int32} {C : String} {T : u_T} {N : Nat} {ty : Nat → FieldType} {fs : List wc_V} (hCl : wg_C ci C T N ty) (hd : decode cc pc = .ok (.putfield idx, 3)) (hg : w[x]? = some (ci + 2, 0, fs)) (hi : i < N) (hw : Cond.fieldLink own idx (T i).1 (T i).2.1 (T i).2.2.1 ∈ wg_T) (hfin : (T i).2.2.2 = false) (hdt : parseFieldDescriptor (T i).2.2.1 = some .int) (hfl : i < fs.length) (k : wc_G l F own cc nL R mc ms n0 ad0 w' (pc + 3) L st (w.set x (ci + 2, 0, fs.set i (.inl v))) cells slots) : wc_G l F own cc nL R mc ms n0 ad0 w' pc L (.int v :: .ref x :: st) w cells slots := by
  intro p e s m args below meth c ad H locs ls hx hb hml hr hlk ho hnm hts hK hN hAO hB hin hP hD hS hag hL
  obtain ⟨h1, h2, h3, h4, h5⟩ := hCl
  refine va_put (D := F.1) (cl := vwCl) (tys := wc_ys F) (ws := wc_w F ad w) (C := C) (T := T) (N := N) (ci := ci) (v := .int v) (ty := .int) (fs := fs.map (wc_v ad)) hx hb hts h2 ty h3 h4 ho hK hP hD hS x (wc_w_get hg) h1 i hi (hts _ hw) (fun _ h9 => h9) hfin hdt rfl rfl (by rw [List.length_map]; exact hfl) hd (fun H1 locs1 hP1 hD1 hS1 => ?_)
  have e0 : (wc_w F ad w).set x (ad x, .inr (ci, (fs.map (wc_v ad)).set i (.int v))) = wc_w F ad (w.set x (ci + 2, 0, fs.set i (.inl v))) := by
    rw [← wc_w_set]
    show _ = (wc_w F ad w).set x (ad x, .inr (ci, (fs.set i (.inl v)).map (wc_v ad)))
    rw [← wc_map_set]
    rfl
  rw [e0] at hP1 hD1
  refine k p e s m args below meth c ad H1 locs1 ls hx hb hml hr hlk ho hnm hts hK hN hAO hB (wc_in_set hin (fun j' hj' => ?_)) hP1 hD1 hS1 hag hL
  rcases List.mem_or_eq_of_mem_set hj' with h | h
  · exact hin x _ hg j' h
  · cases h
theorem wk_getR {idx ci i x j : Nat} {C : String} {T : u_T} {N : Nat} {ty : Nat → FieldType} {fs : List wc_V} (hCl : wg_C ci C T N ty) (hd : decode cc pc = .ok (.getfield idx, 3)) (hg : w[x]? = some (ci + 2, 0, fs)) (hi : i < N) (hw : Cond.fieldLink own idx (T i).1 (T i).2.1 (T i).2.2.1 ∈ wg_T) (hf : fs[i]? = some (.inr (some j))) (k : wc_G l F own cc nL R mc ms n0 ad0 w' (pc + 3) L (.ref j :: st) w cells slots) : wc_G l F own cc nL R mc ms n0 ad0 w' pc L (.ref x :: st) w cells slots := by
  intro p e s m args below meth c ad H locs ls hx hb hml hr hlk ho hnm hts hK hN hAO hB hin hP hD hS hag hL
  obtain ⟨h1, h2, h3, h4, h5⟩ := hCl
  refine va_get (D := F.1) (cl := vwCl) (tys := wc_ys F) (ws := wc_w F ad w) (C := C) (T := T) (N := N) (ci := ci) (v := .ref (ad j)) (fs := fs.map (wc_v ad)) hx hb hts h2 ho hK hP x (wc_w_get hg) h1 i hi (hts _ hw) (fun _ h9 => h9) (by rw [List.getElem?_map, hf]; rfl) hd (k p e s m args below meth c ad H locs ls hx hb hml hr hlk ho hnm hts hK hN hAO hB hin hP hD hS hag hL)
theorem wk_iast {x : Nat} {j v : Int32} {n : Nat} {fs : List wc_V} (hd : decode cc pc = .ok (.iastore, 1)) (hg : w[x]? = some (0, n, fs)) (hj : vp_in j n) (hfs : fs.length = j.toNatClampNeg) (hnr : ∀ q, .inr q ∉ fs) (k : wc_G l F own cc nL R mc ms n0 ad0 w' (pc + 1) L st (w.set x (0, n, fs ++ [.inl v])) cells slots) : wc_G l F own cc nL R mc ms n0 ad0 w' pc L (.int v :: .int j :: .ref x :: st) w cells slots := by
  intro p e s m args below meth c ad H locs ls hx hb hml hr hlk ho hnm hts hK hN hAO hB hin hP hD hS hag hL
  refine va_iast (D := F.1) (cl := vwCl) (tys := wc_ys F) (ws := wc_w F ad w) hx hb hK hP hD hS x 0 (wc_w_get hg) rfl hj hd (fun H1 locs1 hP1 hD1 hS1 => ?_)
  have e0 : (wc_w F ad w).set x (ad x, .inl (F.2.1, n, .inl (upd (fun i => match fs.getD i (.inl 0) with | .inl x => x | .inr _ => 0) j.toNatClampNeg v))) = wc_w F ad (w.set x (0, n, fs ++ [.inl v])) := by
    rw [← wc_w_set]
    have ef : upd (fun i => match fs.getD i (.inl 0) with | .inl x => x | .inr _ => 0) j.toNatClampNeg v = (fun i => match (fs ++ [Sum.inl v] : List wc_V).getD i (Sum.inl 0) with | .inl x => x | .inr _ => 0) := by
      funext i
      simp only [upd, List.getD_eq_getElem?_getD]
      by_cases hi : i = j.toNatClampNeg
      · rw [if_pos hi, hi, ← hfs, List.getElem?_append_right (Nat.le_refl _)]
        simp
      · rw [if_neg hi]
        rcases Nat.lt_or_ge i fs.length with h | h
        · rw [List.getElem?_append_left h]
        · rw [List.getElem?_eq_none h, List.getElem?_eq_none (by simp; omega)]
    simp only [wc_ce]
    rw [ef]
  rw [e0] at hP1 hD1
  refine k p e s m args below meth c ad H1 locs1 ls hx hb hml hr hlk ho hnm hts hK hN hAO hB (wc_in_set hin (fun j' hj' => ?_)) hP1 hD1 hS1 hag hL
  rcases List.mem_append.mp hj' with h | h
  · exact absurd h (hnr _)
  · simp at h
theorem wk_ret (hd : decode cc pc = .ok (.return_, 1)) (hc : cells ≤ mc) (hs : slots ≤ ms) : wc_G l F own cc nL R mc ms n0 ad0 w pc L [] w cells slots := by
  intro p e s m args below meth c ad H locs ls hx hb hml hr hlk ho hnm hts hK hN hAO hB hin hP hD hS hag hL
  refine W.widen (k := mc) (n := ms) hc hs ?_
  exact W.vret hx hb hr (fun t ht hW => ⟨rfl, ⟨ad, hag, hin, by rw [ht]; exact hP, hD⟩, hS.F ht⟩) hS.2.2 hd hlk
theorem wc_blind (As : List Value) : FrameBlind (va_Pc (As.map (wc_sh ad0)) (fun U => F.2.2.2 ≤ U.heap.size ∧ va_K F.1 vwCl (wc_ys F) U ∧ (∀ q ∈ wg_NW, va_Nw (.methodLinkNest q.1 q.2.1 q.2.2 "WornWigs") U) ∧ va_AO "WornWigs$Bench" U ∧ wc_in w ∧ va_P F.1 vwCl (wc_w F ad0 w) U.heap ∧ va_D (wc_A F) (wc_w F ad0 w))) := by
  intro a U g mk ⟨h1, h2, h3, h4, h5, h6, h7, h8⟩
  exact ⟨h1, h2, va_K.moved (u := U) (U := U.calling g mk a) (Vm.Alike.refl U.vm) h3, fun q hq => va_Nw.same (u := U) (U := U.calling g mk a) rfl rfl (h4 q hq), va_AO.moved (u := U) (U := U.calling g mk a) (Vm.Alike.refl U.vm) h5, h6, h7, h8⟩
theorem wk_callI {idx n nL2 mc2 ms2 x : Nat} {y : MethodName} {cc2 : ByteArray} {rm2 : Room} {w2 : wc_W} (As : List Value) (hd : decode cc pc = .ok (.invokespecial idx, 3)) (hm : Cond.methodLink own idx y ∈ wg_T ∧ Cond.instanceMethod y ∈ wg_T) (hy1 : y.name = "<init>") (hY : wg_Y y cc2 nL2 none n) (hM : wc_MG l F y cc2 nL2 rm2 mc2 ms2 (.ref x :: As) w w2) (hn : As.length = n) (st0 : List Value) (hst : st = As.reverse ++ .ref x :: st0) (h8 : st0.length ≤ 8) (hR : rm2.cells = mc2 ∧ rm2.slots = ms2 ∧ rm2.frames + 1 ≤ R.frames ∧ 8 + (nL2 + 11) + rm2.locals ≤ R.locals ∧ cells + mc2 ≤ R.cells ∧ slots + ms2 ≤ R.slots) (hlL : wc_lt w.length L) (hls : wc_lt w.length st0) (hn0 : n0 ≤ w.length) (k : wc_G l F own cc nL R mc ms n0 ad0 w' (pc + 3) L st0 w2 (cells + mc2) (slots + ms2)) : wc_G l F own cc nL R mc ms n0 ad0 w' pc L st w cells slots := by
  intro p e s m args below meth c ad H locs ls hx hb hml hr hlk ho hnm hts hK hN hAO hB hin hP hD hS hag hL
  have hc : ((st0.map (wc_sh ad)).map fun v => v.category).sum = st0.length := by
    have : ∀ xs : List Value, ((xs.map (wc_sh ad)).map fun v => v.category).sum = xs.length := by
      intro xs
      induction xs with
      | nil => rfl
      | cons a as ih => simp only [List.map_cons, List.sum_cons, wc_sh_cat, List.length_cons] at ih ⊢; omega
    exact this st0
  have hrun := va_runI (n := n) (l := l) (e := e) (below := below) (meth := meth) (locs := locs) (cells := cells) (slots := slots) (R := R) (H := H) (b := ad x) (As := As.map (wc_sh ad)) (rest := st0.map (wc_sh ad)) (g := F0 m pc ls (st.map (wc_sh ad))) ⟨hx, hb, hml, ho, hts⟩ (hM ad) ⟨callB_of n hts (wg_good hY) rfl hR.1 hR.2.1 (hts _ hY.1) (hts _ hm.1) hY.2.2 ⟨hR.2.2.1, hR.2.2.2.1⟩, hy1, hts _ hm.2⟩ ⟨wc_blind _, fun U hU hW => ⟨rfl, by rw [hU]; exact Nat.le_trans hB hS.1, va_K.moved hW.alike hK, fun q hq => va_Nw.warmM hW (hN q hq), va_AO.moved hW.alike hAO, hin, by rw [hU]; exact hP, hD⟩⟩ rfl (by rw [List.length_map]; exact hn) hL.1 (by rw [hst]; simp [wc_sh]) (by rw [hc]; simpa using h8) hd ⟨hR.2.2.2.2.1, hR.2.2.2.2.2⟩
  intro T hT X
  obtain ⟨v, st₀, t, T', L', h0, X', hL', e1, e2, ⟨hv, ⟨ad2, hag2, hin2, hP2, hD2⟩, hz, hk⟩, st'⟩ := hrun T hT X
  cases hv
  rw [h0] at hz hk
  have hS' : va_S (wc_A F) s.heap T'.heap (locs ++ L') := ⟨Nat.le_trans hS.1 (by rw [e1]; exact hz), fun q h1 h2 => by rw [e1, hk q (Nat.lt_of_lt_of_le h1 hS.1) h2]; exact hS.2.1 q h1 h2, fun q hq => by
    rcases List.mem_append.mp hq with h | h
    · exact hS.2.2 q h
    · exact hL' q h⟩
  have hL2 : wc_ls ad2 L ls nL := by
    refine ⟨hL.1, hL.2.1, fun i v hv => ?_⟩
    have h1 : L.map (wc_sh ad2) = L.map (wc_sh ad) := wc_sh_congr hag2 hlL
    have h2 : (L.map (wc_sh ad2))[i]? = some (wc_sh ad2 v) := by simp [hv]
    rw [h1] at h2
    simp only [List.getElem?_map, hv, Option.map_some, Option.some.injEq] at h2
    rw [← h2]
    exact hL.2.2 i v hv
  have kk := k p e s m args below meth c ad2 T'.heap (locs ++ L') ls hx hb hml hr hlk ho hnm hts hK hN hAO hB hin2 (by rw [e1]; exact hP2) hD2 hS' (fun j hj => (hag2 j (by omega)).trans (hag j hj)) hL2
  rw [wc_sh_congr hag2 hls] at kk
  obtain ⟨t2, a1, b1⟩ := kk T' rfl X'
  exact ⟨t2, st' t2 a1, b1⟩
theorem wk_callN {idx n nL2 mc2 ms2 x : Nat} {y : MethodName} {cc2 : ByteArray} {rm2 : Room} {w2 : wc_W} (As : List Value) (hd : decode cc pc = .ok (.invokespecial idx, 3)) (hm : (own, idx, y) ∈ wg_NW ∧ Cond.instanceMethod y ∈ wg_T) (hy1 : y.name = "<init>") (hY : wg_Y y cc2 nL2 none n) (hM : wc_MG l F y cc2 nL2 rm2 mc2 ms2 (.ref x :: As) w w2) (hn : As.length = n) (st0 : List Value) (hst : st = As.reverse ++ .ref x :: st0) (h8 : st0.length ≤ 8) (hR : rm2.cells = mc2 ∧ rm2.slots = ms2 ∧ rm2.frames + 1 ≤ R.frames ∧ 8 + (nL2 + 11) + rm2.locals ≤ R.locals ∧ cells + mc2 ≤ R.cells ∧ slots + ms2 ≤ R.slots) (hlL : wc_lt w.length L) (hls : wc_lt w.length st0) (hn0 : n0 ≤ w.length) (k : wc_G l F own cc nL R mc ms n0 ad0 w' (pc + 3) L st0 w2 (cells + mc2) (slots + ms2)) : wc_G l F own cc nL R mc ms n0 ad0 w' pc L st w cells slots := by
  intro p e s m args below meth c ad H locs ls hx hb hml hr hlk ho hnm hts hK hN hAO hB hin hP hD hS hag hL
  have hc : ((st0.map (wc_sh ad)).map fun v => v.category).sum = st0.length := by
    have : ∀ xs : List Value, ((xs.map (wc_sh ad)).map fun v => v.category).sum = xs.length := by
      intro xs
      induction xs with
      | nil => rfl
      | cons a as ih => simp only [List.map_cons, List.sum_cons, wc_sh_cat, List.length_cons] at ih ⊢; omega
    exact this st0
  have hrun := va_runIN (n := n) (l := l) (e := e) (below := below) (meth := meth) (locs := locs) (cells := cells) (slots := slots) (R := R) (H := H) (b := ad x) (As := As.map (wc_sh ad)) (rest := st0.map (wc_sh ad)) (g := F0 m pc ls (st.map (wc_sh ad))) ⟨hx, hb, hml, ho, hts⟩ (hM ad) ⟨va_cnB n hts (wg_good hY) rfl hR.1 hR.2.1 (hN _ hm.1) (hts _ hY.1) hY.2.2 ⟨hR.2.2.1, hR.2.2.2.1⟩, hy1, hts _ hm.2⟩ ⟨wc_blind _, fun U hU hW => ⟨rfl, by rw [hU]; exact Nat.le_trans hB hS.1, va_K.moved hW.alike hK, fun q hq => va_Nw.warmM hW (hN q hq), va_AO.moved hW.alike hAO, hin, by rw [hU]; exact hP, hD⟩⟩ rfl (by rw [List.length_map]; exact hn) hL.1 (by rw [hst]; simp [wc_sh]) (by rw [hc]; simpa using h8) hd ⟨hR.2.2.2.2.1, hR.2.2.2.2.2⟩
  intro T hT X
  obtain ⟨v, st₀, t, T', L', h0, X', hL', e1, e2, ⟨hv, ⟨ad2, hag2, hin2, hP2, hD2⟩, hz, hk⟩, st'⟩ := hrun T hT X
  cases hv
  rw [h0] at hz hk
  have hS' : va_S (wc_A F) s.heap T'.heap (locs ++ L') := ⟨Nat.le_trans hS.1 (by rw [e1]; exact hz), fun q h1 h2 => by rw [e1, hk q (Nat.lt_of_lt_of_le h1 hS.1) h2]; exact hS.2.1 q h1 h2, fun q hq => by
    rcases List.mem_append.mp hq with h | h
    · exact hS.2.2 q h
    · exact hL' q h⟩
  have hL2 : wc_ls ad2 L ls nL := by
    refine ⟨hL.1, hL.2.1, fun i v hv => ?_⟩
    have h1 : L.map (wc_sh ad2) = L.map (wc_sh ad) := wc_sh_congr hag2 hlL
    have h2 : (L.map (wc_sh ad2))[i]? = some (wc_sh ad2 v) := by simp [hv]
    rw [h1] at h2
    simp only [List.getElem?_map, hv, Option.map_some, Option.some.injEq] at h2
    rw [← h2]
    exact hL.2.2 i v hv
  have kk := k p e s m args below meth c ad2 T'.heap (locs ++ L') ls hx hb hml hr hlk ho hnm hts hK hN hAO hB hin2 (by rw [e1]; exact hP2) hD2 hS' (fun j hj => (hag2 j (by omega)).trans (hag j hj)) hL2
  rw [wc_sh_congr hag2 hls] at kk
  obtain ⟨t2, a1, b1⟩ := kk T' rfl X'
  exact ⟨t2, st' t2 a1, b1⟩
theorem wk_max {idx : Nat} {x y : Int32} (hd : decode cc pc = .ok (.invokestatic idx, 3)) (hw : Cond.methodLink own idx Lib.Math.max.name ∈ wg_T ∧ Cond.static Lib.Math.max.name ∈ wg_T ∧ Cond.initialized "java/lang/Math" ∈ wg_T ∧ Cond.code Lib.Math.max.name Lib.Math.max.code 2 (some .int) ∈ wg_T) (hf : 1 ≤ R.frames) (hlo : 13 ≤ R.locals) (hst : st = []) (hc : cells ≤ R.cells) (hs : slots ≤ R.slots) (v : Int32) (hv : (if x < y then y else x) = v) (k : wc_G l F own cc nL R mc ms n0 ad0 w' (pc + 3) L (.int v :: st) w cells slots) : wc_G l F own cc nL R mc ms n0 ad0 w' pc L (.int y :: .int x :: st) w cells slots := by
  intro p e s m args below meth c ad H locs ls hx hb hml hr hlk ho hnm hts hK hN hAO hB hin hP hD hS hag hL
  subst hst
  subst hv
  exact va_mmax (rest := []) hx hb (hml.trans hL.1.symm) ho (hts _ hw.1) (hts _ hw.2.1) (hts _ hw.2.2.1) (hts _ hw.2.2.2) hf hlo hc hs hd (k p e s m args below meth c ad H locs ls hx hb hml hr hlk ho hnm hts hK hN hAO hB hin hP hD hS hag hL)
theorem wk_newq {idx : Nat} {n : Int32} (N' : Nat) (hd : decode cc pc = .ok (.anewarray idx, 3)) (hw : Cond.classLink own idx "WornWigs$Bench" ∈ wg_T) (hn : ¬ n < 0) (hNn : n.toNatClampNeg = N') (hby : N' * 4 ≤ 536870912) (hc : cells + 1 ≤ R.cells) (hs : slots + N' ≤ R.slots) (hlL : wc_lt w.length L) (hls : wc_lt w.length st) (hn0 : n0 ≤ w.length) (k : wc_G l F own cc nL R mc ms n0 ad0 w' (pc + 3) L (.ref w.length :: st) (w ++ [(1, N', [])]) (cells + 1) (slots + N')) : wc_G l F own cc nL R mc ms n0 ad0 w' pc L (.int n :: st) w cells slots := by
  intro p e s m args below meth c ad H locs ls hx hb hml hr hlk ho hnm hts hK hN hAO hB hin hP hD hS hag hL
  refine va_newq (D := F.1) (cl := vwCl) (tys := wc_ys F) (ws := wc_w F ad w) (N' := N') hx hb ho (hts _ hw) hAO hK hP hD hS (fun q hq => Nat.le_trans hB hq) hn hNn hby hc hs hd (fun q cA H1 hK1 hP1 hD1 hS1 => ?_)
  have hcA : cA = F.2.2.1 := by
    obtain ⟨kA, comp, a1, a2, a3, a4⟩ := (hK1.2 2 (cA, .object "WornWigs$Bench") rfl).2
    obtain ⟨kA', comp', b1, b2, b3, b4⟩ := (hK.2 1 (F.2.2.1, .object "WornWigs$Bench") rfl).2
    exact Option.some.inj (a4.symm.trans b4)
  subst hcA
  obtain ⟨hP2, hD2⟩ := wc_grow (x := (1, N', [])) hin (fun j hj => by cases hj) hP1 hD1
  have e := k p e s m args below meth c (wc_up ad w.length q) H1 locs ls hx hb hml hr hlk ho hnm hts hK hN hAO hB (wc_in_push hin (fun j hj => by cases hj)) hP2 hD2 hS1 (fun j hj => (wc_up_lt (by omega)).trans (hag j hj)) (wc_ls_up hL hlL)
  rw [List.map_cons, wc_sh_congr (vs := st) (fun j hj => wc_up_lt hj) hls] at e
  simp only [wc_sh, wc_up_eq] at e
  exact e
theorem wk_astq {x b : Nat} {j : Int32} {n : Nat} {fs vs : List wc_V} (hd : decode cc pc = .ok (.aastore, 1)) (hg : w[x]? = some (1, n, fs)) (hv : w[b]? = some (2, 0, vs)) (hj : vp_in j n) (hfs : fs.length = j.toNatClampNeg) (k : wc_G l F own cc nL R mc ms n0 ad0 w' (pc + 1) L st (w.set x (1, n, fs ++ [.inr (some b)])) cells slots) : wc_G l F own cc nL R mc ms n0 ad0 w' pc L (.ref b :: .int j :: .ref x :: st) w cells slots := by
  intro p e s m args below meth c ad H locs ls hx hb hml hr hlk ho hnm hts hK hN hAO hB hin hP hD hS hag hL
  refine va_astq (D := F.1) (cl := vwCl) (tys := wc_ys F) (ws := wc_w F ad w) (r := vwCl[0]) hx hb hK hP hD hS x 1 b 0 (wc_w_get hg) rfl (wc_w_get hv) rfl hj hd (fun H1 locs1 hP1 hD1 hS1 => ?_)
  have e0 : (wc_w F ad w).set x (ad x, .inl (F.2.2.1, n, .inr (.inr (.inr (.inr (va_up (fun i => match fs.getD i (.inr none) with | .inr o => o.map ad | .inl _ => none) j.toNatClampNeg (some (ad b)))))))) = wc_w F ad (w.set x (1, n, fs ++ [.inr (some b)])) := by
    rw [← wc_w_set]
    have ef : va_up (fun i => match fs.getD i (.inr none) with | .inr o => o.map ad | .inl _ => none) j.toNatClampNeg (some (ad b)) = (fun i => match (fs ++ [Sum.inr (some b)] : List wc_V).getD i (Sum.inr none) with | .inr o => o.map ad | .inl _ => none : Nat → Option Nat) := by
      funext i
      simp only [va_up, List.getD_eq_getElem?_getD]
      by_cases hi : i = j.toNatClampNeg
      · rw [if_pos hi, hi, ← hfs, List.getElem?_append_right (Nat.le_refl _)]
        simp
      · rw [if_neg hi]
        rcases Nat.lt_or_ge i fs.length with h | h
        · rw [List.getElem?_append_left h]
        · rw [List.getElem?_eq_none h, List.getElem?_eq_none (by simp; omega)]
    simp only [wc_ce]
    rw [ef]
  rw [e0] at hP1 hD1
  refine k p e s m args below meth c ad H1 locs1 ls hx hb hml hr hlk ho hnm hts hK hN hAO hB (wc_in_set hin (fun j' hj' => ?_)) hP1 hD1 hS1 hag hL
  rcases List.mem_append.mp hj' with h | h
  · exact hin x _ hg j' h
  · simp at h
    subst h
    exact (List.getElem?_eq_some_iff.mp hv).1
theorem wc_met {y : MethodName} {rm : Room} (As : List Value) (hy : plainName y.cls = true) (hnm : y.name = "<init>") (hl : As.length ≤ nL) (h : ∀ ad0 : Nat → Nat, wc_G l F y.cls cc nL rm mc ms w.length ad0 w' 0 As [] w 0 0) : wc_MG l F y cc nL rm mc ms As w w' := by
  intro ad0
  refine Met.ofW (cc := cc) (maxL := nL) (ret := none) hy rfl ?_
  intro p e s m args below meth c s₁ B hml hv
  obtain ⟨rfl, hB, hK, hN, hAO, hin, hP, hD⟩ := hv
  have hts := atoms_spec (ws := .code y cc nL none :: wg_T) B.pre
  have hl0 : (lg_sl (As.map (wc_sh ad0))).length = As.length := by
    have : ∀ xs : List Value, (lg_sl (xs.map (wc_sh ad0))).length = xs.length := by
      intro xs
      induction xs with
      | nil => rfl
      | cons a as ih =>
        simp only [lg_sl, List.map_cons, List.flatMap_cons, wc_sh_cat, List.length_append] at ih ⊢
        rw [ih]
        simp
        omega
    exact this As
  have hl1 := lv_entry (As.map (wc_sh ad0)) (n := nL) (by rw [hl0]; exact hl)
  rw [lg_entry_eq]
  generalize (lg_sl (As.map (wc_sh ad0)) ++ List.replicate (nL - (lg_sl (As.map (wc_sh ad0))).length) Slot.unset).toArray = ls at hl1 ⊢
  refine h ad0 p e s m _ below meth c ad0 s.heap [] ls B.exec B.bytes hml B.returns B.notSynchronized (findClass_of_methodNamed B.named) (((name_of_methodNamed B.named B.method).1).trans hnm) (fun w hw => hts w (List.mem_cons_of_mem _ hw)) hK hN hAO hB hin hP hD va_S.rf (fun _ _ => rfl) ⟨hl1.1, hl1.2.1, fun i v hv => ?_⟩
  have hg : ∀ (xs : List Value) (b i : Nat) (w : Value), xs[i]? = some w → (b + i, wc_sh ad0 w) ∈ lv_args b (xs.map (wc_sh ad0)) := by
    intro xs
    induction xs with
    | nil => intro b i w hw; simp at hw
    | cons a as ih =>
      intro b i w hw
      cases i with
      | zero =>
        simp at hw
        subst hw
        exact List.mem_cons_self
      | succ i =>
        have := ih (b + 1) i w (by simpa using hw)
        simp only [List.map_cons, lv_args, wc_sh_cat]
        refine List.mem_cons_of_mem _ ?_
        have e : b + (i + 1) = b + 1 + i := by omega
        rw [e]
        exact this
  have := hg As 0 i v hv
  rw [Nat.zero_add] at this
  exact hl1.2.2 _ this
end WK

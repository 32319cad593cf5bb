/-! the words of the tables that a method hands on -/
def wg_T : List Cond := lw_tbl.filter goodWord
theorem wg_T_of {w : Cond} (h : w ∈ lw_tbl) (g : goodWord w = true) : w ∈ wg_T := List.mem_filter.mpr ⟨h, g⟩
theorem wg_T_good : GoodIn wg_T wg_T := fun w h => ⟨h, good_of_word (List.mem_filter.mp h).2⟩
theorem wg_T_in {w : Cond} (h : w ∈ wg_T) : w ∈ lw_tbl := (List.mem_filter.mp h).1
theorem wg_tb {w : Cond} (h : w ∈ tables_1) : w ∈ lw_tbl := List.mem_append_right _ h
theorem wg_t1 {w : Cond} (h : w ∈ tables_1_1) : w ∈ lw_tbl := wg_tb (List.mem_append_left _ h)
theorem wg_t2 {w : Cond} (h : w ∈ tables_1_2) : w ∈ lw_tbl := wg_tb (List.mem_append_right _ (List.mem_append_left _ h))
theorem wg_t3 {w : Cond} (h : w ∈ tables_1_3) : w ∈ lw_tbl := wg_tb (List.mem_append_right _ (List.mem_append_right _ (List.mem_append_left _ h)))
theorem wg_t4 {w : Cond} (h : w ∈ tables_1_4) : w ∈ lw_tbl := wg_tb (List.mem_append_right _ (List.mem_append_right _ (List.mem_append_right _ (List.mem_append_left _ h))))
theorem wg_t5 {w : Cond} (h : w ∈ tables_1_5) : w ∈ lw_tbl := wg_tb (List.mem_append_right _ (List.mem_append_right _ (List.mem_append_right _ (List.mem_append_right _ (List.mem_append_left _ h)))))
theorem wg_t6 {w : Cond} (h : w ∈ tables_1_6) : w ∈ lw_tbl := wg_tb (List.mem_append_right _ (List.mem_append_right _ (List.mem_append_right _ (List.mem_append_right _ (List.mem_append_right _ (List.mem_append_left _ h))))))
theorem wg_t7 {w : Cond} (h : w ∈ tables_1_7) : w ∈ lw_tbl := wg_tb (List.mem_append_right _ (List.mem_append_right _ (List.mem_append_right _ (List.mem_append_right _ (List.mem_append_right _ (List.mem_append_right _ (List.mem_append_left _ h)))))))
theorem wg_t8 {w : Cond} (h : w ∈ tables_1_8) : w ∈ lw_tbl := wg_tb (List.mem_append_right _ (List.mem_append_right _ (List.mem_append_right _ (List.mem_append_right _ (List.mem_append_right _ (List.mem_append_right _ (List.mem_append_right _ (List.mem_append_left _ h))))))))
theorem wg_t9 {w : Cond} (h : w ∈ tables_1_9) : w ∈ lw_tbl := wg_tb (List.mem_append_right _ (List.mem_append_right _ (List.mem_append_right _ (List.mem_append_right _ (List.mem_append_right _ (List.mem_append_right _ (List.mem_append_right _ (List.mem_append_right _ h))))))))
theorem wg_sel {q : MethodName × Nat} (h : q ∈ lw_privs) : Cond.selects q.1.cls q.1 q.1 ∈ lw_tbl := List.mem_append_left _ (List.mem_map.mpr ⟨q, h, rfl⟩)
/-! the memory: a cell's number and a place in it to an int; the shape: of each cell its kind (0 int[], 1 Bench[], c + 2 an object of class c), its length, its references -/
abbrev wg_M : Type := Nat → Nat → Int32
abbrev wg_S : Type := List (Nat × Nat × List (Option Nat))
abbrev wg_E : Type := (Nat → Nat) × va_G × ClassId × ClassId × (Nat × Nat × Option Nat) × (State → Prop)
def wg_c (S : wg_S) (k : Nat) : Nat × Nat × List (Option Nat) := S.getD k (1000, 0, [])
def wg_t (S : wg_S) (k : Nat) : Nat := (wg_c S k).1
def wg_n (S : wg_S) (k : Nat) : Nat := (wg_c S k).2.1
def wg_f (S : wg_S) (k : Nat) : List (Option Nat) := (wg_c S k).2.2
def wg_r (S : wg_S) (k i : Nat) : Nat := ((wg_f S k).getD i none).getD 0
def wg_u (σ : wg_M) (k i : Nat) (v : Int32) : wg_M := fun a => if a = k then upd (σ k) i v else σ a
def wg_fv (E : wg_E) (f : Nat → Int32) (i : Nat) (o : Option Nat) : Value := match o with
  | none => .int (f i)
  | some j => .ref (E.1 j)
def wg_ce (E : wg_E) (q : Nat × Nat × List (Option Nat)) (f : Nat → Int32) : va_E := match q with
  | (0, n, _) => .inl (E.2.2.1, n, .inl f)
  | (1, n, rs) => .inl (E.2.2.2.1, n, .inr (.inr (.inr (.inr (fun i => (rs.getD i none).map E.1)))))
  | (c + 2, _, fs) => .inr (c, fs.mapIdx (wg_fv E f))
def wg_w (E : wg_E) (S : wg_S) (σ : wg_M) : va_W := (List.range S.length).map (fun k => (E.1 k, wg_ce E (wg_c S k) (σ k)))
theorem wg_w_get {E : wg_E} {S : wg_S} {σ : wg_M} {k : Nat} (h : k < S.length) : (wg_w E S σ)[k]? = some (E.1 k, wg_ce E (wg_c S k) (σ k)) := by
  simp [wg_w, h]
theorem wg_w_len {E : wg_E} {S : wg_S} {σ : wg_M} : (wg_w E S σ).length = S.length := by simp [wg_w]
theorem wg_w_set {E : wg_E} {S : wg_S} {σ σ' : wg_M} {k : Nat} {e : va_E} (h : k < S.length) (he : e = wg_ce E (wg_c S k) (σ' k)) (ho : ∀ j, j ≠ k → σ j = σ' j) : (wg_w E S σ).set k (E.1 k, e) = wg_w E S σ' := by
  apply List.ext_getElem?
  intro j
  by_cases hj : j = k
  · subst hj
    rw [List.getElem?_set_self (by rw [wg_w_len]; exact h), wg_w_get h, he]
  · rw [List.getElem?_set_ne (Ne.symm hj)]
    by_cases hl : j < S.length
    · rw [wg_w_get hl, wg_w_get hl, ho j hj]
    · rw [List.getElem?_eq_none (by rw [wg_w_len]; omega), List.getElem?_eq_none (by rw [wg_w_len]; omega)]
theorem wg_lt {S : wg_S} {k t : Nat} (h : wg_t S k = t) (ht : t ≠ 1000) : k < S.length := by
  rcases Nat.lt_or_ge k S.length with q | q
  · exact q
  · exfalso
    apply ht
    rw [← h, wg_t, wg_c, List.getD_eq_getElem?_getD, List.getElem?_eq_none q]; rfl
/-! the kinds of a class's fields: 0 an int, t + 1 a reference to a cell of kind t -/
def wg_pt : Nat → List Nat
  | 0 => [12, 5, 1, 1, 1, 1, 0, 0, 0, 0]
  | 1 => [13, 3, 12, 5, 6, 3, 0]
  | 2 => [1, 1, 1, 1, 1, 0]
  | 3 => [1, 1, 0, 1, 1, 1, 0, 1, 1]
  | 4 => [1, 1, 1, 1, 0]
  | 5 => [2, 0, 0]
  | 6 => [13, 1, 0, 1, 1, 1, 0, 0, 0, 0, 6, 7, 1, 0, 0, 0]
  | 7 => [13, 4]
  | 8 => [1, 1, 1, 0, 1, 1, 0, 1, 1, 1, 0, 1]
  | 9 => [1, 1, 1, 1, 1, 1, 1, 1, 0]
  | 10 => [3, 7, 6, 7, 7, 7, 11]
  | 11 => [13, 13, 8, 9, 4, 10, 0]
  | 12 => [0, 1, 1, 0, 1, 0, 0, 0, 0, 1, 1, 1, 1, 1, 1, 0, 0, 0, 0, 0, 1, 1, 1, 1, 1, 1, 1, 1, 0, 0, 0, 1, 0, 0, 0, 0, 0, 0, 1, 0, 1, 0, 1, 1, 1, 0, 1, 1, 1, 0, 1, 1, 1, 0, 1, 1, 1, 0, 0, 0, 1]
  | _ => []
def wg_okc (S : wg_S) (q : Nat × Nat × List (Option Nat)) : Bool := match q with
  | (0, _, _) => true
  | (1, n, rs) => rs.length == n && rs.all (fun o => match o with | some j => wg_t S j == 2 | none => false)
  | (c + 2, _, fs) => fs.length == (wg_pt c).length && (List.zip fs (wg_pt c)).all (fun q => match q.1 with | none => q.2 == 0 | some j => q.2 == wg_t S j + 1)
def wg_ok (S : wg_S) : Bool := S.all (wg_okc S)
theorem wg_ok_at {S : wg_S} (hS : wg_ok S = true) {k : Nat} (h : k < S.length) : wg_okc S (wg_c S k) = true := by
  have h1 : wg_c S k ∈ S := by
    rw [wg_c, List.getD_eq_getElem?_getD, List.getElem?_eq_getElem h]
    exact List.getElem_mem h
  exact List.all_eq_true.mp hS _ h1
theorem wg_fields {S : wg_S} (hS : wg_ok S = true) {k c : Nat} (hk : wg_t S k = c + 2) (hc : c ≠ 998) : wg_c S k = (c + 2, wg_n S k, wg_f S k) ∧ (wg_f S k).length = (wg_pt c).length ∧ ∀ (i : Nat) (o : Option Nat) (t : Nat), (wg_f S k)[i]? = some o → (wg_pt c)[i]? = some t → (match o with | none => t == 0 | some j => t == wg_t S j + 1) = true := by
  have h := wg_ok_at hS (wg_lt hk (by omega))
  have e : wg_c S k = (c + 2, wg_n S k, wg_f S k) := by
    rw [← hk]; rfl
  rw [e] at h
  simp only [wg_okc, Bool.and_eq_true, beq_iff_eq] at h
  refine ⟨e, h.1, fun i o t h1 h2 => ?_⟩
  have h3 : (List.zip (wg_f S k) (wg_pt c))[i]? = some (o, t) := by
    rw [List.getElem?_zip_eq_some]; exact ⟨h1, h2⟩
  exact List.all_eq_true.mp h.2 _ (List.mem_of_getElem? h3)
theorem wg_ty {S : wg_S} (hS : wg_ok S = true) {k : Nat} (c i t : Nat) (hk : wg_t S k = c + 2) (hp : (wg_pt c)[i]? = some (t + 1)) (hc : c ≠ 998) : (wg_f S k)[i]? = some (some (wg_r S k i)) ∧ wg_t S (wg_r S k i) = t := by
  obtain ⟨-, h1, h2⟩ := wg_fields hS hk hc
  have hl : i < (wg_f S k).length := by
    rw [h1]; exact (List.getElem?_eq_some_iff.mp hp).1
  have h3 : (wg_f S k)[i]? = some ((wg_f S k)[i]) := List.getElem?_eq_getElem hl
  have h4 := h2 i _ _ h3 hp
  cases ho : (wg_f S k)[i] with
  | none => rw [ho] at h4; simp at h4
  | some j =>
    rw [ho] at h3 h4
    have h5 : wg_r S k i = j := by
      rw [wg_r, List.getD_eq_getElem?_getD, h3]; rfl
    rw [h5]
    refine ⟨h3, ?_⟩
    simp only [beq_iff_eq] at h4
    omega
theorem wg_ti {S : wg_S} (hS : wg_ok S = true) {k c i : Nat} (hk : wg_t S k = c + 2) (hp : (wg_pt c)[i]? = some 0) (hc : c ≠ 998) : (wg_f S k)[i]? = some none := by
  obtain ⟨-, h1, h2⟩ := wg_fields hS hk hc
  have hl : i < (wg_f S k).length := by
    rw [h1]; exact (List.getElem?_eq_some_iff.mp hp).1
  have h3 : (wg_f S k)[i]? = some ((wg_f S k)[i]) := List.getElem?_eq_getElem hl
  have h4 := h2 i _ _ h3 hp
  cases ho : (wg_f S k)[i] with
  | none => rw [h3, ho]
  | some j => rw [ho] at h4; simp at h4
theorem wg_ta {S : wg_S} (hS : wg_ok S = true) {k i : Nat} (hk : wg_t S k = 1) (hi : i < wg_n S k) : (wg_f S k)[i]? = some (some (wg_r S k i)) ∧ wg_t S (wg_r S k i) = 2 := by
  have h := wg_ok_at hS (wg_lt hk (by omega))
  have e : wg_c S k = (1, wg_n S k, wg_f S k) := by
    rw [← hk]; rfl
  rw [e] at h
  simp only [wg_okc, Bool.and_eq_true, beq_iff_eq] at h
  have hl : i < (wg_f S k).length := by rw [h.1]; exact hi
  have h3 : (wg_f S k)[i]? = some ((wg_f S k)[i]) := List.getElem?_eq_getElem hl
  have h4 := List.all_eq_true.mp h.2 _ (List.mem_of_getElem? h3)
  cases ho : (wg_f S k)[i] with
  | none => rw [ho] at h4; simp at h4
  | some j =>
    rw [ho] at h3 h4
    have h5 : wg_r S k i = j := by
      rw [wg_r, List.getD_eq_getElem?_getD, h3]; rfl
    rw [h5]
    exact ⟨h3, by simpa using h4⟩
/-! what stays while a method runs -/
def wg_A (E : wg_E) (S : wg_S) : Nat → Prop := fun q => ∃ k, k < S.length ∧ q = E.1 k
def wg_OK (E : wg_E) (S : wg_S) : Prop := (∀ i j, i < S.length → j < S.length → E.1 i = E.1 j → i = j) ∧ wg_ok S = true ∧
  ∀ u U : State, u.WarmedH U.vm → (∀ q, q < u.heap.size → ¬ wg_A E S q → U.heap[q]? = u.heap[q]?) → E.2.2.2.2.2 u → E.2.2.2.2.2 U
def wg_ys (E : wg_E) : List (ClassId × FieldType) := [(E.2.2.1, .int), (E.2.2.2.1, .object "WornWigs$Bench")]
def wg_NW : List (String × Nat × MethodName) := [("WornWigs", 11, ⟨"WornWigs$World", "<init>", "()V"⟩), ("WornWigs$World", 11, ⟨"WornWigs$Bench", "<init>", "()V"⟩), ("WornWigs$Bench", 11, ⟨"WornWigs$Wigs", "<init>", "()V"⟩), ("WornWigs$Bench", 20, ⟨"WornWigs$Judges", "<init>", "()V"⟩), ("WornWigs$World", 29, ⟨"WornWigs$Law", "<init>", "()V"⟩), ("WornWigs$World", 45, ⟨"WornWigs$Told", "<init>", "()V"⟩), ("WornWigs$Past", 17, ⟨"WornWigs$Bench", "<init>", "()V"⟩), ("WornWigs$Reader", 30, ⟨"WornWigs$Law", "<init>", "()V"⟩), ("WornWigs$Court", 11, ⟨"WornWigs$Bench", "<init>", "()V"⟩), ("WornWigs$Wigs", 36, ⟨"WornWigs", "copyRow", "([I[I)V"⟩), ("WornWigs$Judges", 27, ⟨"WornWigs", "copyRow", "([I[I)V"⟩), ("WornWigs$Bench", 45, ⟨"WornWigs", "copyRow", "([I[I)V"⟩), ("WornWigs$Court", 128, ⟨"WornWigs", "held", "(III)I"⟩), ("WornWigs$Court", 197, ⟨"WornWigs", "within", "(III)Z"⟩), ("WornWigs$Wigs", 56, ⟨"WornWigs", "held", "(III)I"⟩), ("WornWigs$Reader", 84, ⟨"WornWigs", "within", "(III)Z"⟩), ("WornWigs$Law", 33, ⟨"WornWigs", "copyRow", "([I[I)V"⟩), ("WornWigs$Lines", 28, ⟨"WornWigs", "copyRow", "([I[I)V"⟩), ("WornWigs$Told", 53, ⟨"WornWigs", "within", "(III)Z"⟩), ("WornWigs$Told", 39, ⟨"WornWigs", "copyRow", "([I[I)V"⟩)]
def wg_K (E : wg_E) (s : State) : Prop := va_K E.2.1 vwCl (wg_ys E) s ∧ (∀ q ∈ wg_NW, va_Nw (.methodLinkNest q.1 q.2.1 q.2.2 "WornWigs") s) ∧ E.2.2.2.2.2 s
theorem wg_D {E : wg_E} {S : wg_S} {σ : wg_M} (h : wg_OK E S) : va_D (wg_A E S) (wg_w E S σ) := by
  refine ⟨fun i j p q hi hj hpq => ?_, fun k q hk => ?_⟩
  · have li : i < S.length := by rw [← wg_w_len (E := E) (σ := σ)]; exact (List.getElem?_eq_some_iff.mp hi).1
    have lj : j < S.length := by rw [← wg_w_len (E := E) (σ := σ)]; exact (List.getElem?_eq_some_iff.mp hj).1
    rw [wg_w_get li] at hi
    rw [wg_w_get lj] at hj
    cases hi; cases hj
    exact h.1 i j li lj hpq
  · have lk : k < S.length := by rw [← wg_w_len (E := E) (σ := σ)]; exact (List.getElem?_eq_some_iff.mp hk).1
    rw [wg_w_get lk] at hk
    cases hk
    exact ⟨k, lk, rfl⟩
def wg_sh (E : wg_E) : Value → Value
  | .int x => .int x
  | .ref k => .ref (E.1 k)
  | .retAddr _ => .ref E.2.2.2.2.1.2.1
  | .null => va_rf E.2.2.2.2.1.2.2
  | _ => .ref E.2.2.2.2.1.1
theorem wg_rf_cat (o : Option Nat) : (va_rf o).category = 1 := by cases o <;> rfl
theorem wg_sh_cat (E : wg_E) (v : Value) : (wg_sh E v).category = 1 := by cases v <;> first | rfl | exact wg_rf_cat _
def wg_as (E : wg_E) (L : List (Option Value)) : List (Nat × Value) := (List.range L.length).filterMap (fun i => match L[i]? with | some (some v) => some (i, wg_sh E v) | _ => none)
theorem wg_as_mem {E : wg_E} {L : List (Option Value)} {q : Nat × Value} : q ∈ wg_as E L ↔ ∃ v, L[q.1]? = some (some v) ∧ q.2 = wg_sh E v := by
  obtain ⟨i, w⟩ := q
  simp only [wg_as, List.mem_filterMap, List.mem_range]
  constructor
  · rintro ⟨j, hj, h⟩
    split at h
    · next v hv =>
      cases h
      exact ⟨v, hv, rfl⟩
    · cases h
  · rintro ⟨v, hv, rfl⟩
    exact ⟨i, (List.getElem?_eq_some_iff.mp hv).1, by rw [hv]⟩
def wg_LH (E : wg_E) (L : List (Option Value)) (ls : Array Slot) (nL : Nat) : Prop := lv_has ls nL (wg_as E L)
theorem wg_LH.at {E : wg_E} {L : List (Option Value)} {ls : Array Slot} {nL i : Nat} {v : Value} (h : wg_LH E L ls nL) (hv : L[i]? = some (some v)) : ls[i]? = some (.val (wg_sh E v)) :=
  h.2.2 (i, wg_sh E v) (wg_as_mem.mpr ⟨v, hv, rfl⟩)
theorem wg_LH.wk {E : wg_E} {L L' : List (Option Value)} {ls : Array Slot} {nL : Nat} (h : wg_LH E L ls nL) (hs : ∀ (i : Nat) (v : Value), L'[i]? = some (some v) → L[i]? = some (some v)) : wg_LH E L' ls nL :=
  ⟨h.1, h.2.1, fun q hq => by
    obtain ⟨v, h1, h2⟩ := wg_as_mem.mp hq
    exact h.2.2 q (wg_as_mem.mpr ⟨v, hs _ _ h1, h2⟩)⟩
theorem wg_LH.st {E : wg_E} {L : List (Option Value)} {ls : Array Slot} {nL i : Nat} {v : Value} (h : lv_has ls nL ((i, wg_sh E v) :: (wg_as E L).filter (fun q => !(q.1 == i) && !(q.1 + 1 == i && q.2.category == 2)))) : wg_LH E (L.set i (some v)) ls nL :=
  ⟨h.1, h.2.1, fun q hq => by
    obtain ⟨w, h1, h2⟩ := wg_as_mem.mp hq
    apply h.2.2 q
    by_cases hi : q.1 = i
    · rw [hi, List.getElem?_set] at h1
      split at h1
      · split at h1
        · cases h1
          rw [List.mem_cons]
          exact Or.inl (Prod.ext hi h2)
        · cases h1
      · next hne => exact absurd rfl hne
    · rw [List.getElem?_set_ne (Ne.symm hi)] at h1
      refine List.mem_cons_of_mem _ (List.mem_filter.mpr ⟨wg_as_mem.mpr ⟨w, h1, h2⟩, ?_⟩)
      have hc : q.2.category = 1 := by rw [h2]; exact wg_sh_cat E w
      simp [hi, hc]⟩
def wg_Q (E : wg_E) (S : wg_S) (r : Option Int32) (σ' : wg_M) : Array Value → State → Outcome → State → Prop := fun _ st oc t => oc = .returned (r.map Value.int) ∧ va_P E.2.1 vwCl (wg_w E S σ') t.heap ∧ va_F (wg_A E S) st t
/-- the judgement: from pc, with the locals L, the stack st and the memory σ, the method comes to its end with the answer r and the memory σ' -/
def wg_G (l : Launch) (E : wg_E) (S : wg_S) (own : String) (cc : ByteArray) (nL : Nat) (rt : Option FieldType) (R : Room) (r : Option Int32) (σ' : wg_M) (pc : Nat) (L : List (Option Value)) (st : List Value) (σ : wg_M) : Prop :=
  ∀ (p : Program) (e : Env) (s : State) (m : MethodId) (args : Array Value) (below : List Frame) (meth : Method) (c : Code) (H : Heap) (locs : List Loc) (ls : Array Slot),
    p.tables.exec = Jvm.exec → c.code = cc → c.maxLocals = nL → meth.sig.returnType = rt → meth.locks = false → s.vm.findClass own = some m.cls → (∀ w ∈ wg_T, w.before args s = true) → wg_K E s → wg_OK E S →
    va_P E.2.1 vwCl (wg_w E S σ) H → va_S (wg_A E S) s.heap H locs → wg_LH E L ls nL →
    W p l e R s m args below meth c H locs 0 0 (MQ below (wg_Q E S r σ') args s 0 0 (wg_A E S)) (F0 m pc ls (st.map (wg_sh E)))
/-- the contract of a method -/
def wg_MG (l : Launch) (E : wg_E) (S : wg_S) (y : MethodName) (cc : ByteArray) (nL : Nat) (rt : Option FieldType) (rm : Room) (As : List Value) (σ : wg_M) (r : Option Int32) (σ' : wg_M) : Prop :=
  Met l y (.code y cc nL rt :: wg_T) rm (va_Pc (As.map (wg_sh E)) (fun U => wg_OK E S ∧ wg_K E U ∧ va_P E.2.1 vwCl (wg_w E S σ) U.heap)) (wg_Q E S r σ') 0 0 (wg_A E S)
